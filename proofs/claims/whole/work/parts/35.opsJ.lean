set_option linter.all false
theorem m86 {K : Int32 → Int32 → Int32 → Int32 → Int32 → Int32 → Sg → Int32 × Sg} {x1 x2 x4 x5 x6 y0 y1 : Int32} {u : Sg} : f_X6_survey_86 K x1 x2 x4 x5 x6 y0 y1 u = K x1 x2 (y1 + y0) x4 (if x5 < u 34 6 then u 34 6 else x5) (x6 + x1) u := by
  unfold f_X6_survey_86 f_X6_survey_106
  by_cases q : u 34 6 ≤ x5
  · rw [itp q, if_neg (Int32.not_lt.mpr q)]
  · rw [itn q, if_pos (Int32.not_le.mp q)]
theorem m86ok {K : Int32 → Int32 → Int32 → Int32 → Int32 → Int32 → Sg → Prop} {x1 x2 x4 x5 x6 y0 y1 : Int32} {u : Sg} (h : K x1 x2 (y1 + y0) x4 (if x5 < u 34 6 then u 34 6 else x5) (x6 + x1) u) : ok_X6_survey_86 K x1 x2 x4 x5 x6 y0 y1 u := by
  refine ⟨fun q => ?_, fun q => ?_⟩
  · rw [if_neg (Int32.not_lt.mpr q)] at h
    exact h
  · rw [if_pos (Int32.not_le.mp q)] at h
    exact h
theorem sv_L {v : Nat → Int} {N P1 : Int} {x2 : Int32} (hv : VS N v) (hp : 102 ≤ P1 ∧ P1 ≤ 4080) : ∀ (n : Nat) (x3 x4 x5 : Int32) (X : Int) (σ τ : Sg), 0 ≤ X → X ≤ 8160 → 4182 - X ≤ 102 * (n : Int) → 0 < n → NC σ v → NM τ v →
    ok_X5_survey_35 n (zI P1) x2 x3 x4 x5 (zI X) σ ∧ ok_X6_survey_35 n (zI P1) x2 x3 x4 x5 (zI X) τ ∧ fr 28 [0, 1, 2, 3] σ (f_X5_survey_35 n (zI P1) x2 x3 x4 x5 (zI X) σ).2 ∧ frM τ (f_X6_survey_35 n (zI P1) x2 x3 x4 x5 (zI X) τ).2 ∧ (f_X6_survey_35 n (zI P1) x2 x3 x4 x5 (zI X) τ).1 = (f_X5_survey_35 n (zI P1) x2 x3 x4 x5 (zI X) σ).1 := by
  intro n
  induction n with
  | zero => intro x3 x4 x5 X σ τ h0 h1 h2 h3; omega
  | succ n ih =>
    intro x3 x4 x5 X σ τ h0 h1 h2 h3 hC hM
    have e1 : ((4080 : Int32) ≤ zI X) ↔ 4080 ≤ X := by rw [z_n]; exact z_le (by unfold zB; omega) (by unfold zB; omega)
    by_cases q : 4080 ≤ X
    · have eC : f_X5_survey_35 (n + 1) (zI P1) x2 x3 x4 x5 (zI X) σ = o_ite (x2 = 0) (x3, σ) (o_ite (x2 = 1) (x4, σ) (x5, σ)) := by
        show o_ite _ _ _ = _
        rw [itp (e1.mpr q)]
      have eM : f_X6_survey_35 (n + 1) (zI P1) x2 x3 x4 x5 (zI X) τ = o_ite (x2 = 0) (x3, τ) (o_ite (x2 = 1) (x4, τ) (x5, τ)) := by
        show o_ite _ _ _ = _
        rw [itp (e1.mpr q)]
      refine ⟨⟨fun _ => ⟨fun _ => trivial, fun _ => ⟨fun _ => trivial, fun _ => trivial⟩⟩, fun c => absurd (e1.mpr q) c⟩, ⟨fun _ => ⟨fun _ => trivial, fun _ => ⟨fun _ => trivial, fun _ => trivial⟩⟩, fun c => absurd (e1.mpr q) c⟩, ?_⟩
      rw [eC, eM]
      have rf : frM τ τ := ⟨fun _ _ _ => rfl, fun _ _ => rfl⟩
      by_cases a : x2 = 0
      · rw [itp a, itp a]
        exact ⟨fr.rf, rf, rfl⟩
      · rw [itn a, itn a]
        by_cases b : x2 = 1
        · rw [itp b, itp b]
          exact ⟨fr.rf, rf, rfl⟩
        · rw [itn b, itn b]
          exact ⟨fr.rf, rf, rfl⟩
    · have s := se_C (a := X) hC hv ⟨h0, by omega⟩
      obtain ⟨w, hw⟩ : ∃ w : Sg, w = f_X1_search (zI X) σ := ⟨_, rfl⟩
      obtain ⟨-, w1, w2, -, wf⟩ := s.2 w hw
      have l := lo_M (a := X) hM hv ⟨h0, by omega⟩
      obtain ⟨u, hu⟩ : ∃ u : Sg, u = f_X6_looks (zI X) τ := ⟨_, rfl⟩
      obtain ⟨-, u1, u2, -, uf⟩ := l.2 u hu
      have bl := fL_b v X
      have el : (zI (fL v X) = zI X) ↔ fL v X = X := z_eq (by unfold zB; omega) (by unfold zB; omega)
      have zx : zI X + zI P1 = zI (X + P1) := z_add _ _
      have hC' := wf.nc hC
      have hM' := uf.nm hM
      have nx := fun (y3 y4 y5 : Int32) => ih y3 y4 y5 (X + P1) w u (by omega) (by omega) (by omega) (by omega) hC' hM'
      rw [← zx] at nx
      have eC : f_X5_survey_35 (n + 1) (zI P1) x2 x3 x4 x5 (zI X) σ = o_ite (zI (fL v X) = zI X) (f_X5_survey_35 n (zI P1) x2 x3 x4 (if x5 < zI (fD v X) then zI (fD v X) else x5) (zI X + zI P1) w) (o_ite (x3 = 0) (f_X5_survey_35 n (zI P1) x2 (x3 + 1) (zI X) (if x5 < zI (fD v X) then zI (fD v X) else x5) (zI X + zI P1) w) (f_X5_survey_35 n (zI P1) x2 (x3 + 1) x4 (if x5 < zI (fD v X) then zI (fD v X) else x5) (zI X + zI P1) w)) := by
        have e : f_X5_survey_35 (n + 1) (zI P1) x2 x3 x4 x5 (zI X) σ = o_ite (4080 ≤ zI X) _ _ := rfl
        rw [e, itn (fun c => q (e1.mp c))]
        dsimp only
        rw [← hw, w1, w2]
        rfl
      have eM : f_X6_survey_35 (n + 1) (zI P1) x2 x3 x4 x5 (zI X) τ = o_ite (zI (fL v X) = zI X) (f_X6_survey_35 n (zI P1) x2 (x3 + 0) x4 (if x5 < zI (fD v X) then zI (fD v X) else x5) (zI X + zI P1) u) (o_ite (x3 = 0) (f_X6_survey_35 n (zI P1) x2 (x3 + 1) (zI X) (if x5 < zI (fD v X) then zI (fD v X) else x5) (zI X + zI P1) u) (f_X6_survey_35 n (zI P1) x2 (x3 + 1) x4 (if x5 < zI (fD v X) then zI (fD v X) else x5) (zI X + zI P1) u)) := by
        have e : f_X6_survey_35 (n + 1) (zI P1) x2 x3 x4 x5 (zI X) τ = o_ite (4080 ≤ zI X) _ _ := rfl
        rw [e, itn (fun c => q (e1.mp c))]
        unfold f_X6_survey_67 f_X6_survey_69
        dsimp only
        rw [← hu, m86, m86, m86, m86, u1, u2]
        by_cases a : zI (fL v X) = zI X
        · rw [itp a, itp a, itp a]
        · repeat rw [itn a]
      have x30 : x3 + 0 = x3 := Int32.add_zero x3
      have okM : ∀ y4 : Int32, (¬ zI (fL v X) = zI X → ok_X6_survey_35 n (zI P1) x2 (x3 + 1) y4 (if x5 < zI (fD v X) then zI (fD v X) else x5) (zI X + zI P1) u) → (zI (fL v X) = zI X → ok_X6_survey_35 n (zI P1) x2 (x3 + 0) y4 (if x5 < zI (fD v X) then zI (fD v X) else x5) (zI X + zI P1) u) → ok_X6_survey_69 (ok_X6_survey_35 n) (zI P1) x2 x3 x5 (zI X) y4 u := fun y4 g1 g2 => by
        refine ⟨fun c => m86ok ?_, fun c => m86ok ?_⟩
        · rw [u2]; exact g2 (by rw [u1] at c; exact c)
        · rw [u2]; exact g1 (by rw [u1] at c; exact c)
      have okC : ok_X1_search (zI X) σ ∧ ((zI (fL v X) = zI X → ok_X5_survey_35 n (zI P1) x2 x3 x4 (if x5 < zI (fD v X) then zI (fD v X) else x5) (zI X + zI P1) w) ∧ (¬ zI (fL v X) = zI X → ((x3 = 0) → ok_X5_survey_35 n (zI P1) x2 (x3 + 1) (zI X) (if x5 < zI (fD v X) then zI (fD v X) else x5) (zI X + zI P1) w) ∧ (¬ (x3 = 0) → ok_X5_survey_35 n (zI P1) x2 (x3 + 1) x4 (if x5 < zI (fD v X) then zI (fD v X) else x5) (zI X + zI P1) w))) := ⟨s.1, fun _ => (nx _ _ _).1, fun _ => ⟨fun _ => (nx _ _ _).1, fun _ => (nx _ _ _).1⟩⟩
      have tr : ∀ y : Int32 × Sg, fr 28 [0, 1, 2, 3] w y.2 → fr 28 [0, 1, 2, 3] σ y.2 := fun y h => wf.tr h
      have trM : ∀ y : Int32 × Sg, frM u y.2 → frM τ y.2 := fun y h => uf.tr h
      refine ⟨⟨fun c => absurd (e1.mp c) q, fun _ => ?_⟩, ⟨fun c => absurd (e1.mp c) q, fun _ => ⟨l.1, ?_⟩⟩, ?_⟩
      · rw [← w1, ← w2, hw] at okC
        exact okC
      · dsimp only
        rw [← hu]
        refine ⟨fun c => okM x4 (fun _ => (nx _ _ _).2.1) (fun _ => (nx _ _ _).2.1), fun c => ⟨fun b => okM (zI X) (fun _ => (nx _ _ _).2.1) (fun _ => (nx _ _ _).2.1), fun b => okM x4 (fun _ => (nx _ _ _).2.1) (fun _ => (nx _ _ _).2.1)⟩⟩
      · rw [eC, eM, x30]
        by_cases a : zI (fL v X) = zI X
        · rw [itp a, itp a]
          have r := nx x3 x4 (if x5 < zI (fD v X) then zI (fD v X) else x5)
          exact ⟨tr _ r.2.2.1, trM _ r.2.2.2.1, r.2.2.2.2⟩
        · rw [itn a, itn a]
          by_cases b : x3 = 0
          · rw [itp b, itp b]
            have r := nx (x3 + 1) (zI X) (if x5 < zI (fD v X) then zI (fD v X) else x5)
            exact ⟨tr _ r.2.2.1, trM _ r.2.2.2.1, r.2.2.2.2⟩
          · rw [itn b, itn b]
            have r := nx (x3 + 1) x4 (if x5 < zI (fD v X) then zI (fD v X) else x5)
            exact ⟨tr _ r.2.2.1, trM _ r.2.2.2.1, r.2.2.2.2⟩
theorem op_survey (p1 p2 : Int32) (N : Int) : Op (ok_X5_survey p1 p2) (f_X5_survey p1 p2) (ok_X6_survey p1 p2) (f_X6_survey p1 p2) N := by
  obtain ⟨P1, hP1, rfl⟩ := zarg p1
  obtain ⟨P2, hP2, rfl⟩ := zarg p2
  refine Op.of fun σ v n hs L tx hC hv hh hn hL hT => ?_
  have eC : ∀ s : Sg, (f_X5_isOutside (zI P1) 102 4080 s = 0) ↔ (102 ≤ P1 ∧ P1 ≤ 4080) := fun s => out_iff (b := 102) (c := 4080) hP1 (by unfold zB; omega) (by unfold zB; omega)
  have eM : ∀ s : Sg, (f_X6_in (zI P1) 102 4080 s = 0) ↔ ¬ (102 ≤ P1 ∧ P1 ≤ 4080) := fun s => in_iff (b := 102) (c := 4080) hP1 (by unfold zB; omega) (by unfold zB; omega)
  have fC : ∀ s : Sg, (f_X5_isOutside (zI P2) 0 2 s = 0) ↔ (0 ≤ P2 ∧ P2 ≤ 2) := fun s => out_iff (b := 0) (c := 2) hP2 (by unfold zB; omega) (by unfold zB; omega)
  have fM : ∀ s : Sg, (f_X6_in (zI P2) 0 2 s = 0) ↔ ¬ (0 ≤ P2 ∧ P2 ≤ 2) := fun s => in_iff (b := 0) (c := 2) hP2 (by unfold zB; omega) (by unfold zB; omega)
  by_cases q1 : 102 ≤ P1 ∧ P1 ≤ 4080
  · by_cases q2 : 0 ≤ P2 ∧ P2 ≤ 2
    · have r := fun (τ : Sg) (hM : NM τ v) => sv_L (x2 := zI P2) hv q1 oF 0 (-4) 0 0 σ τ (by omega) (by omega) (by rw [oF_eq]; omega) (by rw [oF_eq]; omega) hC.nc hM
      obtain ⟨τ0, hτ0⟩ : ∃ τ : Sg, NM τ v := ⟨fun _ k => zI (v k), fun _ _ => rfl⟩
      have eC' : f_X5_survey (zI P1) (zI P2) σ = f_X5_survey_35 oF (zI P1) (zI P2) 0 (-4) 0 (zI 0) σ := by
        unfold f_X5_survey
        rw [itp ((eC _).mpr q1), itp ((fC _).mpr q2)]
        rfl
      have c0 := r τ0 hτ0
      have cf := c0.2.2.1
      refine op_same hC hv hh hn hL hT (f_X5_survey_35 oF (zI P1) (zI P2) 0 (-4) 0 (zI 0) σ).1 ⟨out_ok, ⟨fun _ => ⟨out_ok, ⟨fun _ => c0.1, fun _ => trivial⟩⟩, fun _ => trivial⟩⟩ (fun p e => ?_) (fun τ hτ => ?_)
      · rw [e, eC']
        exact ⟨rfl, fun c hc => cf.1 c (by omega), by rw [cf.1 30 (by omega)], cf.1 31 (by omega), fun c hc => cf.1 c (by omega)⟩
      · have m := r τ hτ.nm
        have mf := m.2.2.2.1
        refine ⟨⟨in_ok, ⟨fun _ => trivial, fun _ => ⟨in_ok, ⟨fun _ => trivial, fun _ => m.2.1⟩⟩⟩⟩, fun p e => ?_⟩
        have e' : p = f_X6_survey_35 oF (zI P1) (zI P2) 0 (-4) 0 (zI 0) τ := by
          rw [e]
          unfold f_X6_survey
          rw [itn (fun c => (eM _).mp c q1), itn (fun c => (fM _).mp c q2)]
          rfl
        rw [e']
        exact ⟨m.2.2.2.2, hτ.fr (mf.1 35 (by omega) (by omega)) (mf.1 36 (by omega) (by omega)) (mf.1 37 (by omega) (by omega)) (mf.2 2 (by decide)) (mf.2 4 (by decide)), fun c hc => mf.1 c (by omega) (by omega)⟩
    · refine op_same hC hv hh hn hL hT (-1) ⟨out_ok, ⟨fun _ => ⟨out_ok, ⟨fun c => absurd ((fC _).mp c) q2, fun _ => trivial⟩⟩, fun _ => trivial⟩⟩ (q_same ?_) (fun τ hτ => m_same hτ ⟨in_ok, ⟨fun _ => trivial, fun _ => ⟨in_ok, ⟨fun _ => trivial, fun c => absurd ((fM _).mpr q2) c⟩⟩⟩⟩ ?_)
      · unfold f_X5_survey
        rw [itp ((eC _).mpr q1), itn (fun c => q2 ((fC _).mp c))]
      · unfold f_X6_survey
        rw [itn (fun c => (eM _).mp c q1), itp ((fM _).mpr q2)]
  · refine op_same hC hv hh hn hL hT (-1) ⟨out_ok, ⟨fun c => absurd ((eC _).mp c) q1, fun _ => trivial⟩⟩ (q_same ?_) (fun τ hτ => m_same hτ ⟨in_ok, ⟨fun _ => trivial, fun c => absurd ((eM _).mpr q1) c⟩⟩ ?_)
    · unfold f_X5_survey
      rw [itn (fun c => q1 ((eC _).mp c))]
    · unfold f_X6_survey
      rw [itp ((eM _).mpr q1)]
