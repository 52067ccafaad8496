set_option linter.all false
theorem cx_place {s : Int} {v : Nat → Int} : cx s v 0 = v 0 := cx_at0
theorem turn_C {D Q s N : Int} (hsg : -1 ≤ s ∧ s ≤ 1) (hD : -100 ≤ D ∧ D ≤ 100) {n' : Nat} {hs : Nat → Nat → Int} {L : Nat} {tx : Nat → Int} : ∀ (n i : Nat) (σ : Sg) (v : Nat → Int), AC σ v n' hs L tx → VS N v → (i : Int) ≤ (if 0 ≤ D then D else 0 - D) → (if 0 ≤ D then D else 0 - D) - i < n → ok_X5_turn_81 n (zI Q) (zI D) (zI s) (zI i) σ ∧ ∀ q : Int32 × Sg, q = f_X5_turn_81 n (zI Q) (zI D) (zI s) (zI i) σ → q.1 = zI Q ∧ AC q.2 (vu (cxs s ((if 0 ≤ D then D else 0 - D) - i).toNat v) 0 Q) n' hs L tx ∧ ∀ c, c ≠ 1 → q.2 c = σ c := by
  intro n
  have eD : (if (0 : Int32) ≤ zI D then zI D else 0 - zI D) = zI (if 0 ≤ D then D else 0 - D) := by
    have e0 : ((0 : Int32) ≤ zI D) ↔ 0 ≤ D := by rw [z_0]; exact z_le (by unfold zB; omega) (by unfold zB; omega)
    have e1 : (0 : Int32) - zI D = zI (0 - D) := z_sub 0 D
    by_cases q : 0 ≤ D
    · rw [if_pos (e0.mpr q), if_pos q]
    · rw [if_neg (fun c => q (e0.mp c)), if_neg q, e1]
  have hA : 0 ≤ (if 0 ≤ D then D else 0 - D) ∧ (if 0 ≤ D then D else 0 - D) ≤ 100 := by split <;> omega
  generalize (if 0 ≤ D then D else 0 - D) = A at *
  induction n with
  | zero => intro i σ v hC hv h1 h2; omega
  | succ n ih =>
    intro i σ v hC hv h1 h2
    have e1 : (zI A ≤ zI (i : Int)) ↔ A ≤ i := z_le (by unfold zB; omega) (by unfold zB; omega)
    by_cases q : A ≤ i
    · constructor
      · unfold ok_X5_turn_81
        rw [eD]
        exact ⟨fun _ => trivial, fun c => absurd (e1.mpr q) c⟩
      · intro p e
        have e' : p = (zI Q, pu σ 1 0 (zI Q)) := by
          rw [e]
          show o_ite _ _ _ = _
          rw [eD, itp (e1.mpr q)]
        have u : AC (pu σ 1 0 (zI Q)) (vu v 0 Q) n' hs L tx := hC.upd (Or.inl ⟨rfl, by omega, rfl⟩)
        rw [e', show (A - i).toNat = 0 by omega]
        exact ⟨rfl, u, fun c hc => pu_ne hc⟩
    · have cb := cb_C hC hv hsg
      obtain ⟨w1, w2⟩ := cb.2 _ rfl
      have r := ih (i + 1) _ _ w1 (cx_vs hv) (by omega) (by omega)
      rw [← z_s] at r
      constructor
      · unfold ok_X5_turn_81
        rw [eD]
        exact ⟨fun c => absurd (e1.mp c) q, fun _ => ⟨cb.1, r.1⟩⟩
      · intro p e
        have e' : p = f_X5_turn_81 n (zI Q) (zI D) (zI s) (zI i + 1) (f_X3_crossBound (zI s) σ) := by
          rw [e]
          show o_ite _ _ _ = _
          rw [eD, itn (fun c => q (e1.mp c))]
        obtain ⟨r1, r2, r3⟩ := r.2 p e'
        refine ⟨r1, ?_, fun c hc => by rw [r3 c hc, w2 c hc]⟩
        rw [show (A - i).toNat = (A - ((i + 1 : Nat) : Int)).toNat + 1 by omega]
        exact r2
theorem z_1020 {a : Int} (h : 0 ≤ a ∧ a < 100000) : zI a / 1020 = zI (a / 1020) := z_divn h.1 (by omega) (b := 1020) (by omega) (by omega)
theorem turn_M {Q s N : Int} (hs1 : s = 1 ∨ s = -1) (hQ : 0 ≤ Q ∧ Q < 65280) {n' : Nat} {hs : Nat → Nat → Int} {L : Nat} {tx : Nat → Int} : ∀ (n m : Nat) (x : Int) (σ : Sg) (v : Nat → Int), AM σ v n' hs L tx → VS N v → v 0 = Q → x + s * m = Q / 1020 → m < n → m ≤ 100 → ok_X6_turn_70 n (zI x) (zI s) σ ∧ ∀ q : Int32 × Sg, q = f_X6_turn_70 n (zI x) (zI s) σ → q.1 = zI Q ∧ AM q.2 (cxs s m v) n' hs L tx ∧ ∀ c, c ≠ 35 → q.2 c = σ c := by
  intro n
  induction n with
  | zero => intro m x σ v hM hv h0 h1 h2; omega
  | succ n ih =>
    intro m x σ v hM hv h0 h1 h2 hm
    have s0 : σ 35 0 = zI Q := by rw [hM.nm 0 (by omega), h0]
    have hx : -200 ≤ x ∧ x ≤ 200 := by rcases hs1 with e | e <;> rw [e] at h1 <;> omega
    have e1 : (zI x = zI (Q / 1020)) ↔ x = Q / 1020 := z_eq (by unfold zB; omega) (by unfold zB; omega)
    have eq : σ 35 0 / 1020 = zI (Q / 1020) := by rw [s0]; exact z_1020 ⟨by omega, by omega⟩
    match m with
    | 0 =>
      have hx0 : x = Q / 1020 := by rw [← h1]; omega
      constructor
      · exact ⟨fun _ => trivial, fun c => absurd (by rw [eq]; exact e1.mpr hx0) c⟩
      · intro p e
        have e' : p = (σ 35 0, σ) := by
          rw [e]
          show o_ite _ _ _ = _
          rw [eq, itp (e1.mpr hx0)]
        rw [e']
        exact ⟨s0, hM, fun _ _ => rfl⟩
    | m + 1 =>
      have hx0 : ¬ x = Q / 1020 := by rcases hs1 with e | e <;> rw [e] at h1 <;> omega
      have cb := cb_M hM hv (s := s) (by omega)
      obtain ⟨w1, w2⟩ := cb.2 _ rfl
      have r := ih m (x + s) _ _ w1 (cx_vs hv) (by rw [cx_at0]; exact h0) (by rcases hs1 with e | e <;> rw [e] at h1 ⊢ <;> omega) (by omega) (by omega)
      rw [← z_add] at r
      constructor
      · exact ⟨fun c => absurd (e1.mp (by rw [eq] at c; exact c)) hx0, fun _ => ⟨cb.1, r.1⟩⟩
      · intro p e
        have e' : p = f_X6_turn_70 n (zI x + zI s) (zI s) (f_X6_crosses (zI s) σ) := by
          rw [e]
          show o_ite _ _ _ = _
          rw [eq, itn (fun c => hx0 (e1.mp c))]
        obtain ⟨r1, r2, r3⟩ := r.2 p e'
        exact ⟨r1, r2, fun c hc => by rw [r3 c hc, w2 c hc]⟩
theorem zm9999 : (-9999 : Int32) = zI (-9999) := by rw [z_n 9999, z_neg]
theorem op_turn (p1 : Int32) (N : Int) : Op (ok_X5_turn p1) (f_X5_turn p1) (ok_X6_turn p1) (f_X6_turn p1) N := by
  obtain ⟨P, hP, rfl⟩ := zarg p1
  refine Op.of fun σ v n hs L tx hC hv hh hn hL hT => ?_
  have v0 := hv.1
  have eC : ∀ s : Sg, (f_X5_isOutside (zI P) (-9999) 9999 s = 0) ↔ (-9999 ≤ P ∧ P ≤ 9999) := fun s => by rw [zm9999]; exact out_iff (b := -9999) (c := 9999) hP (by unfold zB; omega) (by unfold zB; omega)
  have eM : ∀ s : Sg, (f_X6_in (zI P) (-9999) 9999 s = 0) ↔ ¬ (-9999 ≤ P ∧ P ≤ 9999) := fun s => by rw [zm9999]; exact in_iff (b := -9999) (c := 9999) hP (by unfold zB; omega) (by unfold zB; omega)
  by_cases q1 : -9999 ≤ P ∧ P ≤ 9999
  · have zC : σ 1 0 + zI P = zI (v 0 + P) := by rw [hC.nc.s0, z_add]
    have zM : ∀ τ : Sg, AM τ v n hs L tx → τ 35 0 + zI P = zI (v 0 + P) := fun τ hτ => by rw [hτ.nm 0 (by omega), z_add]
    have fC : ∀ s : Sg, (f_X5_isOutside (zI (v 0 + P)) 0 65279 s = 0) ↔ (0 ≤ v 0 + P ∧ v 0 + P ≤ 65279) := fun s => out_iff (b := 0) (c := 65279) (by unfold zB; omega) (by unfold zB; omega) (by unfold zB; omega)
    have fM : ∀ s : Sg, (f_X6_in (zI (v 0 + P)) 0 65279 s = 0) ↔ ¬ (0 ≤ v 0 + P ∧ v 0 + P ≤ 65279) := fun s => in_iff (b := 0) (c := 65279) (by unfold zB; omega) (by unfold zB; omega) (by unfold zB; omega)
    by_cases q2 : 0 ≤ v 0 + P ∧ v 0 + P ≤ 65279
    · have hkeep := keep_C hC hn hv.2.1
      obtain ⟨k1, k2⟩ := hkeep.2 _ rfl
      obtain ⟨Q, hQ⟩ : ∃ Q : Int, Q = v 0 + P := ⟨_, rfl⟩
      obtain ⟨D, hD⟩ : ∃ D : Int, D = Q / 1020 - v 0 / 1020 := ⟨_, rfl⟩
      have bD : -100 ≤ D ∧ D ≤ 100 := by omega
      obtain ⟨A, hA⟩ : ∃ A : Int, A = (if 0 ≤ D then D else 0 - D) := ⟨_, rfl⟩
      have hA2 : 0 ≤ A ∧ A ≤ 100 ∧ (0 ≤ D → A = D) ∧ (D < 0 → A = - D) := by rw [hA]; split <;> omega
      obtain ⟨s, hs0⟩ : ∃ s : Int, s = if 0 ≤ D then 1 else -1 := ⟨_, rfl⟩
      have hsg : s = 1 ∧ 0 ≤ D ∨ s = -1 ∧ D < 0 := by rw [hs0]; split <;> omega
      have zD : (zI Q / 1020) - (f_X2_keep σ 1 0 / 1020) = zI D := by
        rw [k1.nc.s0, z_1020 ⟨by omega, by omega⟩, z_1020 ⟨by omega, by omega⟩, z_sub, hD]
      have e0 : ((0 : Int32) ≤ zI D) ↔ 0 ≤ D := by rw [z_0]; exact z_le (by unfold zB; omega) (by unfold zB; omega)
      have tC := turn_C (Q := Q) (D := D) (s := s) (by omega) bD oF 0 _ v k1 hv (by rw [← hA]; omega) (by rw [← hA, oF_eq]; omega)
      rw [← hA, show (A - ((0 : Nat) : Int)).toNat = A.toNat by omega] at tC
      have o1 : ok_X5_turn_81 oF (zI Q) (zI D) (zI s) 0 (f_X2_keep σ) := tC.1
      refine ⟨zI Q, vu (cxs s A.toNat v) 0 Q, pn n, ph n hs v, L, tx, ?_, fun q e => ?_, fun τ hτ => ?_, ((cxs_vs _ _ hv).vu (by unfold VK; omega)).up (by omega), fun j hj => (ph_vs hv hh hn j hj).up (by omega), pn_le hn, hL, hT⟩
      · refine ⟨out_ok, ⟨fun _ => ⟨out_ok, ⟨fun _ => ⟨hkeep.1, ?_⟩, fun _ => trivial⟩⟩, fun _ => trivial⟩⟩
        dsimp only
        rw [zC, ← hQ, zD]
        refine ⟨fun c => ?_, fun c => ?_⟩
        · have hs1 : s = 1 := by rw [hs0, if_pos (e0.mp c)]
          rw [hs1] at o1
          exact o1
        · have hs1 : s = -1 := by rw [hs0, if_neg (fun d => c (e0.mpr d))]
          rw [hs1] at o1
          exact o1
      · have e' : q = f_X5_turn_81 oF (zI Q) (zI D) (zI s) (zI ((0 : Nat) : Int)) (f_X2_keep σ) := by
          rw [e]
          unfold f_X5_turn
          rw [itp ((eC _).mpr q1), zC, itp ((fC _).mpr q2)]
          dsimp only
          rw [← hQ, zD]
          by_cases d : 0 ≤ D
          · rw [itp (e0.mpr d)]
            have hs1 : s = 1 := by rw [hs0, if_pos d]
            rw [hs1]
            rfl
          · rw [itn (fun c => d (e0.mp c))]
            have hs1 : s = -1 := by rw [hs0, if_neg d]
            rw [hs1]
            rfl
        obtain ⟨r1, r2, r3⟩ := tC.2 q e'
        exact ⟨r1, r2, fun c hc => by rw [r3 c (by omega), k2 c (Or.inr (by omega))]⟩
      · obtain ⟨m1, m2, m3⟩ := (saves_M hτ hn).2 _ rfl
        have u : AM (pu (f_X6_saves τ) 35 0 (zI Q)) (vu v 0 Q) (pn n) (ph n hs v) L tx := m1.upd
        have hvu : VS N (vu v 0 Q) := hv.vu (by unfold VK; omega)
        have zQ : f_X6_saves τ 35 0 + zI P = zI Q := by rw [m1.nm 0 (by omega), z_add, hQ]
        have zq : f_X6_saves τ 35 0 / 1020 = zI (v 0 / 1020) := by rw [m1.nm 0 (by omega)]; exact z_1020 ⟨by omega, by omega⟩
        have pl : (zI P ≤ 0) ↔ P ≤ 0 := by rw [z_0]; exact z_le hP (by unfold zB; omega)
        have tM : ∀ s' : Int, (s' = 1 ∨ s' = -1) → (A.toNat = 0 ∨ s' = s) → ok_X6_turn_70 oF (zI (v 0 / 1020)) (zI s') (pu (f_X6_saves τ) 35 0 (zI Q)) ∧ ∀ q : Int32 × Sg, q = f_X6_turn_70 oF (zI (v 0 / 1020)) (zI s') (pu (f_X6_saves τ) 35 0 (zI Q)) → q.1 = zI Q ∧ AM q.2 (cxs s' A.toNat (vu v 0 Q)) (pn n) (ph n hs v) L tx ∧ ∀ c, c ≠ 35 → q.2 c = pu (f_X6_saves τ) 35 0 (zI Q) c := fun s' g1 g2 => turn_M g1 ⟨by omega, by omega⟩ oF A.toNat _ _ _ u hvu rfl (by
          rcases g2 with g | g
          · rw [g]; omega
          · rw [g]
            rcases hsg with ⟨a, b⟩ | ⟨a, b⟩ <;> rw [a] <;> omega) (by rw [oF_eq]; omega) (by omega)
        have sel : ∀ s' : Int, (A.toNat = 0 ∨ s' = s) → cxs s' A.toNat (vu v 0 Q) = vu (cxs s A.toNat v) 0 Q := fun s' g => by
          rw [cxs_0]
          rcases g with g | g
          · rw [g]; rfl
          · rw [g]
        have tn := tM (-1) (Or.inr rfl)
        have tp := tM 1 (Or.inl rfl)
        have gn : P ≤ 0 → A.toNat = 0 ∨ (-1 : Int) = s := fun h => by
          rcases hsg with ⟨a, b⟩ | ⟨a, b⟩
          · left; omega
          · right; omega
        have gp : ¬ P ≤ 0 → A.toNat = 0 ∨ (1 : Int) = s := fun h => by
          rcases hsg with ⟨a, b⟩ | ⟨a, b⟩
          · right; omega
          · left; omega
        refine ⟨⟨in_ok, ⟨fun _ => trivial, fun _ => ⟨in_ok, ⟨fun _ => trivial, fun _ => ⟨(saves_M hτ hn).1, ?_⟩⟩⟩⟩⟩, fun q e => ?_⟩
        · dsimp only
          rw [zQ, zq]
          exact ⟨fun c => (tn (gn (pl.mp c))).1, fun c => (tp (gp (fun d => c (pl.mpr d)))).1⟩
        · have e' : q = o_ite (zI P ≤ 0) (f_X6_turn_70 oF (zI (v 0 / 1020)) (zI (-1)) (pu (f_X6_saves τ) 35 0 (zI Q))) (f_X6_turn_70 oF (zI (v 0 / 1020)) (zI 1) (pu (f_X6_saves τ) 35 0 (zI Q))) := by
            rw [e]
            unfold f_X6_turn
            rw [itn (fun c => (eM _).mp c q1), zM τ hτ, itn (fun c => (fM _).mp c q2)]
            dsimp only
            rw [zQ, zq]
            rfl
          by_cases d : P ≤ 0
          · rw [itp (pl.mpr d)] at e'
            obtain ⟨r1, r2, r3⟩ := (tn (gn d)).2 q e'
            rw [sel _ (gn d)] at r2
            exact ⟨r1, r2, fun c hc => by rw [r3 c (by omega), pu_ne (by omega), m2 c (by omega) (by omega)]⟩
          · rw [itn (fun c => d (pl.mp c))] at e'
            obtain ⟨r1, r2, r3⟩ := (tp (gp d)).2 q e'
            rw [sel _ (gp d)] at r2
            exact ⟨r1, r2, fun c hc => by rw [r3 c (by omega), pu_ne (by omega), m2 c (by omega) (by omega)]⟩
    · refine op_same hC hv hh hn hL hT (-2) ⟨out_ok, ⟨fun _ => ⟨out_ok, ⟨fun c => absurd ((fC _).mp (by rw [zC] at c; exact c)) q2, fun _ => trivial⟩⟩, fun _ => trivial⟩⟩ (q_same ?_) (fun τ hτ => m_same hτ ⟨in_ok, ⟨fun _ => trivial, fun _ => ⟨in_ok, ⟨fun _ => trivial, fun c => absurd (by rw [zM τ hτ]; exact (fM _).mpr q2) c⟩⟩⟩⟩ ?_)
      · unfold f_X5_turn
        rw [itp ((eC _).mpr q1), zC, itn (fun c => q2 ((fC _).mp c))]
      · unfold f_X6_turn
        rw [itn (fun c => (eM _).mp c q1), zM τ hτ, itp ((fM _).mpr q2)]
  · refine op_same hC hv hh hn hL hT (-1) ⟨out_ok, ⟨fun c => absurd ((eC _).mp c) q1, fun _ => trivial⟩⟩ (q_same ?_) (fun τ hτ => m_same hτ ⟨in_ok, ⟨fun _ => trivial, fun c => absurd ((eM _).mpr q1) c⟩⟩ ?_)
    · unfold f_X5_turn
      rw [itn (fun c => q1 ((eC _).mp c))]
    · unfold f_X6_turn
      rw [itp ((eM _).mpr q1)]
