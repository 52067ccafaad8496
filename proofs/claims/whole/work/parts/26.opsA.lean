set_option linter.all false
theorem out_iff {a b c : Int} {σ : Sg} (ha : zB a) (hb : zB b) (hc : zB c) : (f_X5_isOutside (zI a) (zI b) (zI c) σ = 0) ↔ (b ≤ a ∧ a ≤ c) := by
  rw [out_C ha hb hc, z_0, z_eq (by unfold zB; split <;> (try split) <;> omega) (by unfold zB; omega)]
  split
  · omega
  · split <;> omega
theorem in_iff {a b c : Int} {σ : Sg} (ha : zB a) (hb : zB b) (hc : zB c) : (f_X6_in (zI a) (zI b) (zI c) σ = 0) ↔ ¬ (b ≤ a ∧ a ≤ c) := by
  rw [in_M ha hb hc, z_0, z_eq (by unfold zB; split <;> (try split) <;> omega) (by unfold zB; omega)]
  split
  · omega
  · split <;> omega
theorem in_b {a b c : Int32} {σ : Sg} : f_X6_in a b c σ = 0 ∨ f_X6_in a b c σ = 1 := by
  unfold f_X6_in
  rw [o_itd, o_itd]
  split
  · exact Or.inl rfl
  · split
    · exact Or.inl rfl
    · exact Or.inr rfl
theorem tr_okC {p : Int32} {σ : Sg} : ok_X5_isTrack p σ := ⟨out_ok, ⟨fun _ => trivial, fun _ => trivial⟩⟩
theorem tr_okM {p : Int32} {σ : Sg} : ok_X6_isTrack p σ := ⟨in_ok, (z_nb in_b).1, trivial⟩
theorem tr_C {a : Int} {σ : Sg} (ha : zB a) : (f_X5_isTrack (zI a) σ = 0) ↔ ¬ (0 ≤ a ∧ a ≤ 2) := by
  have e : (f_X5_isOutside (zI a) 0 2 σ = 0) ↔ (0 ≤ a ∧ a ≤ 2) := out_iff (b := 0) (c := 2) ha (by unfold zB; omega) (by unfold zB; omega)
  unfold f_X5_isTrack
  by_cases q : 0 ≤ a ∧ a ≤ 2
  · rw [itp (e.mpr q)]
    exact ⟨fun c => absurd c (by decide), fun c => absurd q c⟩
  · rw [itn (fun c => q (e.mp c))]
    exact ⟨fun _ => q, fun _ => rfl⟩
theorem tr_M {a : Int} {σ : Sg} (ha : zB a) : (f_X6_isTrack (zI a) σ = 0) ↔ ¬ (0 ≤ a ∧ a ≤ 2) := in_iff (b := 0) (c := 2) ha (by unfold zB; omega) (by unfold zB; omega)
theorem ce_okC {p q : Int32} {σ : Sg} : ok_X5_isCell p q σ := ⟨tr_okC, ⟨fun _ => trivial, fun _ => ⟨out_ok, ⟨fun _ => trivial, fun _ => trivial⟩⟩⟩⟩
theorem ce_okM {p q : Int32} {σ : Sg} : ok_X6_isCell p q σ := ⟨tr_okM, ⟨fun _ => trivial, fun _ => ⟨in_ok, ⟨fun _ => trivial, fun _ => trivial⟩⟩⟩⟩
theorem ce_C {a b : Int} {σ : Sg} (ha : zB a) (hb : zB b) : (f_X5_isCell (zI a) (zI b) σ = 0) ↔ ¬ ((0 ≤ a ∧ a ≤ 2) ∧ 0 ≤ b ∧ b ≤ 7) := by
  have e : (f_X5_isOutside (zI b) 0 7 σ = 0) ↔ (0 ≤ b ∧ b ≤ 7) := out_iff (b := 0) (c := 7) hb (by unfold zB; omega) (by unfold zB; omega)
  have e2 := tr_C (σ := σ) ha
  unfold f_X5_isCell
  by_cases q : 0 ≤ a ∧ a ≤ 2
  · rw [itn (fun c => (e2.mp c) q)]
    by_cases q2 : 0 ≤ b ∧ b ≤ 7
    · rw [itp (e.mpr q2)]
      exact ⟨fun c => absurd c (by decide), fun c => absurd ⟨q, q2⟩ c⟩
    · rw [itn (fun c => q2 (e.mp c))]
      exact ⟨fun _ c => q2 c.2, fun _ => rfl⟩
  · rw [itp (e2.mpr q)]
    exact ⟨fun _ c => q c.1, fun _ => rfl⟩
theorem ce_M {a b : Int} {σ : Sg} (ha : zB a) (hb : zB b) : (f_X6_isCell (zI a) (zI b) σ = 0) ↔ ¬ ((0 ≤ a ∧ a ≤ 2) ∧ 0 ≤ b ∧ b ≤ 7) := by
  have e : (f_X6_in (zI b) 0 7 σ = 0) ↔ ¬ (0 ≤ b ∧ b ≤ 7) := in_iff (b := 0) (c := 7) hb (by unfold zB; omega) (by unfold zB; omega)
  have e2 := tr_M (σ := σ) ha
  unfold f_X6_isCell
  by_cases q : 0 ≤ a ∧ a ≤ 2
  · rw [itn (fun c => (e2.mp c) q)]
    by_cases q2 : 0 ≤ b ∧ b ≤ 7
    · rw [itn (fun c => (e.mp c) q2)]
      exact ⟨fun c => absurd c (by decide), fun c => absurd ⟨q, q2⟩ c⟩
    · rw [itp (e.mpr q2)]
      exact ⟨fun _ c => q2 c.2, fun _ => rfl⟩
  · rw [itp (e2.mpr q)]
    exact ⟨fun _ c => q c.1, fun _ => rfl⟩
theorem puts_M {σ : Sg} {v : Nat → Int} {n : Nat} {hs : Nat → Nat → Int} {L : Nat} {tx : Nat → Int} {k : Nat} {x : Int32} (h : AM σ v n hs L tx) (hn : n ≤ 4) (hk : k < 62) : ok_X6_puts (zI k) x σ ∧ f_X6_puts (zI k) x σ = (f_X6_saves σ 35 k, pu (f_X6_saves σ) 35 k x) := by
  refine ⟨⟨(saves_M h hn).1, z_in (by omega) (by omega) (by omega), z_in (by omega) (by omega) (by omega), trivial⟩, ?_⟩
  unfold f_X6_puts
  rw [z_tn (by omega)]
theorem zarg (p : Int32) : ∃ P : Int, zB P ∧ p = zI P := ⟨p.toInt, z_rng p, z_of p⟩
theorem q_same {fC : Sg → Int32 × Sg} {σ : Sg} {r : Int32} (h : fC σ = (r, σ)) : ∀ q : Int32 × Sg, q = fC σ → q.1 = r ∧ (∀ c, c < 28 → q.2 c = σ c) ∧ q.2 30 1 = σ 30 1 ∧ q.2 31 = σ 31 ∧ ∀ c, 34 ≤ c → q.2 c = σ c := by
  intro q e
  rw [e, h]
  exact ⟨rfl, fun _ _ => rfl, rfl, rfl, fun _ _ => rfl⟩
theorem m_same {okM : Sg → Prop} {fM : Sg → Int32 × Sg} {τ : Sg} {r : Int32} {v : Nat → Int} {n : Nat} {hs : Nat → Nat → Int} {L : Nat} {tx : Nat → Int} (hM : AM τ v n hs L tx) (ho : okM τ) (h : fM τ = (r, τ)) : okM τ ∧ ∀ q : Int32 × Sg, q = fM τ → q.1 = r ∧ AM q.2 v n hs L tx ∧ ∀ c, c < 34 → q.2 c = τ c := by
  refine ⟨ho, fun q e => ?_⟩
  rw [e, h]
  exact ⟨rfl, hM, fun _ _ => rfl⟩
theorem op_power (p : Int32) (N : Int) : Op (ok_X5_power p) (f_X5_power p) (ok_X6_power p) (f_X6_power p) N := by
  obtain ⟨P, hP, rfl⟩ := zarg p
  refine Op.of fun σ v n hs L tx hC hv hh hn hL hT => ?_
  have eC : ∀ s : Sg, (f_X5_isOutside (zI P) 0 1 s = 0) ↔ (0 ≤ P ∧ P ≤ 1) := fun s => out_iff (b := 0) (c := 1) hP (by unfold zB; omega) (by unfold zB; omega)
  have eM : ∀ s : Sg, (f_X6_in (zI P) 0 1 s = 0) ↔ ¬ (0 ≤ P ∧ P ≤ 1) := fun s => in_iff (b := 0) (c := 1) hP (by unfold zB; omega) (by unfold zB; omega)
  by_cases q : 0 ≤ P ∧ P ≤ 1
  · have hkeep := keep_C hC hn hv.2.1
    have e1 : (zI P = 1) ↔ P = 1 := by rw [z_n]; exact z_eq hP (by unfold zB; omega)
    refine op_set hC hv hh hn hL hT (c := 1) (s := 2) (k0 := 1) (z := P) (d := v 1) (Or.inl ⟨rfl, by omega, rfl⟩) (by unfold VK; omega) ?_ ?_ ?_
    · exact ⟨out_ok, ⟨fun _ => ⟨hkeep.1, ⟨⟨fun _ => trivial, fun _ => trivial⟩, ⟨fun _ => ⟨z_nb (Or.inr rfl), trivial⟩, fun _ => ⟨z_nb (Or.inl rfl), trivial⟩⟩⟩⟩, fun c => absurd ((eC _).mpr q) c⟩⟩
    · intro hk
      have t : f_X5_toNumber (f_X2_keep σ 1 2) (f_X2_keep σ) = zI (v 1) := by
        unfold f_X5_toNumber
        rw [hk.nc.s2]
        rcases hv.2.1 with e | e
        · rw [e, itp (by decide)]; rfl
        · rw [e, itn (by decide)]; rfl
      unfold f_X5_power f_X5_power_47
      rw [itp ((eC _).mpr q)]
      dsimp only
      rw [t]
      by_cases q1 : P = 1
      · rw [itp (e1.mpr q1), q1]
        exact ⟨rfl, rfl⟩
      · rw [itn (fun c => q1 (e1.mp c)), show P = 0 by omega]
        exact ⟨rfl, rfl⟩
    · intro τ hτ
      have hp := puts_M (k := 1) (x := zI P) hτ hn (by omega)
      refine ⟨⟨in_ok, ⟨fun _ => trivial, fun _ => ⟨hp.1, trivial⟩⟩⟩, fun hk => ?_⟩
      have hp2 : f_X6_puts 1 (zI P) τ = (f_X6_saves τ 35 1, pu (f_X6_saves τ) 35 1 (zI P)) := hp.2
      unfold f_X6_power
      rw [itn (fun c => (eM _).mp c q), hp2]
      exact ⟨hk.nm 1 (by omega), rfl⟩
  · refine op_same hC hv hh hn hL hT (-1) ⟨out_ok, ⟨fun c => absurd ((eC _).mp c) q, fun _ => trivial⟩⟩ (q_same ?_) (fun τ hτ => m_same hτ ⟨in_ok, ⟨fun _ => trivial, fun c => absurd ((eM _).mpr q) c⟩⟩ ?_)
    · unfold f_X5_power
      rw [itn (fun c => q ((eC _).mp c))]
    · unfold f_X6_power
      rw [itp ((eM _).mpr q)]
theorem op_charge (p : Int32) (N : Int) : Op (ok_X5_charge p) (f_X5_charge p) (ok_X6_charge p) (f_X6_charge p) N := by
  obtain ⟨P, hP, rfl⟩ := zarg p
  refine Op.of fun σ v n hs L tx hC hv hh hn hL hT => ?_
  have eC : ∀ s : Sg, (f_X5_isOutside (zI P) 0 999 s = 0) ↔ (0 ≤ P ∧ P ≤ 999) := fun s => out_iff (b := 0) (c := 999) hP (by unfold zB; omega) (by unfold zB; omega)
  have eM : ∀ s : Sg, (f_X6_in (zI P) 0 999 s = 0) ↔ ¬ (0 ≤ P ∧ P ≤ 999) := fun s => in_iff (b := 0) (c := 999) hP (by unfold zB; omega) (by unfold zB; omega)
  by_cases q : 0 ≤ P ∧ P ≤ 999
  · have hkeep := keep_C hC hn hv.2.1
    refine op_set hC hv hh hn hL hT (c := 1) (s := 3) (k0 := 3) (z := P) (d := v 3) (Or.inl ⟨rfl, by omega, rfl⟩) (by unfold VK; omega) ?_ ?_ ?_
    · exact ⟨out_ok, ⟨fun _ => ⟨hkeep.1, trivial⟩, fun _ => trivial⟩⟩
    · intro hk
      unfold f_X5_charge
      rw [itp ((eC _).mpr q)]
      exact ⟨hk.nc.s3, rfl⟩
    · intro τ hτ
      have hp := puts_M (k := 3) (x := zI P) hτ hn (by omega)
      refine ⟨⟨in_ok, ⟨fun _ => trivial, fun _ => ⟨hp.1, trivial⟩⟩⟩, fun hk => ?_⟩
      have hp2 : f_X6_puts 3 (zI P) τ = (f_X6_saves τ 35 3, pu (f_X6_saves τ) 35 3 (zI P)) := hp.2
      unfold f_X6_charge
      rw [itn (fun c => (eM _).mp c q), hp2]
      exact ⟨hk.nm 3 (by omega), rfl⟩
  · refine op_same hC hv hh hn hL hT (-1) ⟨out_ok, ⟨fun c => absurd ((eC _).mp c) q, fun _ => trivial⟩⟩ (q_same ?_) (fun τ hτ => m_same hτ ⟨in_ok, ⟨fun _ => trivial, fun c => absurd ((eM _).mpr q) c⟩⟩ ?_)
    · unfold f_X5_charge
      rw [itn (fun c => q ((eC _).mp c))]
    · unfold f_X6_charge
      rw [itp ((eM _).mpr q)]
theorem op_brownout (p : Int32) (N : Int) : Op (ok_X5_brownout p) (f_X5_brownout p) (ok_X6_brownout p) (f_X6_brownout p) N := by
  obtain ⟨P, hP, rfl⟩ := zarg p
  refine Op.of fun σ v n hs L tx hC hv hh hn hL hT => ?_
  have eC : ∀ s : Sg, (f_X5_isOutside (zI P) 1 9 s = 0) ↔ (1 ≤ P ∧ P ≤ 9) := fun s => out_iff (b := 1) (c := 9) hP (by unfold zB; omega) (by unfold zB; omega)
  have eM : ∀ s : Sg, (f_X6_in (zI P) 1 9 s = 0) ↔ ¬ (1 ≤ P ∧ P ≤ 9) := fun s => in_iff (b := 1) (c := 9) hP (by unfold zB; omega) (by unfold zB; omega)
  have v4 := hv.2.2.2.2.1
  by_cases q : 1 ≤ P ∧ P ≤ 9
  · have hkeep := keep_C hC hn hv.2.1
    have e2 : (zI (v 4) + zI P ≤ 99) ↔ v 4 + P ≤ 99 := by rw [z_add, z_n]; exact z_le (by unfold zB; omega) (by unfold zB; omega)
    have c4 := hC.nc.s4
    by_cases q2 : v 4 + P ≤ 99
    · refine op_set hC hv hh hn hL hT (c := 1) (s := 4) (k0 := 4) (z := v 4 + P) (d := v 4 + P) (Or.inl ⟨rfl, by omega, rfl⟩) (by unfold VK; omega) ?_ ?_ ?_
      · exact ⟨out_ok, ⟨fun _ => ⟨fun _ => ⟨hkeep.1, trivial⟩, fun _ => trivial⟩, fun _ => trivial⟩⟩
      · intro hk
        unfold f_X5_brownout
        rw [itp ((eC _).mpr q), c4, itp (e2.mpr q2)]
        have e4 : f_X2_keep σ 1 4 + zI P = zI (v 4 + P) := by rw [hk.nc.s4, z_add]
        refine ⟨?_, ?_⟩
        · show pu (f_X2_keep σ) 1 4 (f_X2_keep σ 1 4 + zI P) 1 4 = _
          rw [pu_at, e4]
        · show pu (f_X2_keep σ) 1 4 (f_X2_keep σ 1 4 + zI P) = _
          rw [e4]
      · intro τ hτ
        have t4 : τ 35 4 = zI (v 4) := hτ.nm 4 (by omega)
        have hp := puts_M (k := 4) (x := zI (v 4 + P)) hτ hn (by omega)
        have hp2 : f_X6_puts 4 (zI (v 4 + P)) τ = (f_X6_saves τ 35 4, pu (f_X6_saves τ) 35 4 (zI (v 4 + P))) := hp.2
        have e4 : τ 35 4 + zI P = zI (v 4 + P) := by rw [t4, z_add]
        refine ⟨⟨in_ok, ⟨fun _ => trivial, fun _ => ⟨fun _ => ⟨?_, trivial⟩, fun _ => trivial⟩⟩⟩, fun hk => ?_⟩
        · rw [e4]
          exact hp.1
        · unfold f_X6_brownout
          rw [itn (fun c => (eM _).mp c q), t4, itp (e2.mpr q2), z_add, hp2]
          refine ⟨?_, rfl⟩
          show f_X6_saves τ 35 4 + zI P = _
          rw [hk.nm 4 (by omega), z_add]
    · refine op_same hC hv hh hn hL hT (-3) ⟨out_ok, ⟨fun _ => ⟨fun c => absurd (by rw [c4] at c; exact e2.mp c) q2, fun _ => trivial⟩, fun _ => trivial⟩⟩ (q_same ?_) (fun τ hτ => m_same hτ ⟨in_ok, ⟨fun _ => trivial, fun _ => ⟨fun c => absurd (by rw [hτ.nm 4 (by omega)] at c; exact e2.mp c) q2, fun _ => trivial⟩⟩⟩ ?_)
      · unfold f_X5_brownout
        rw [itp ((eC _).mpr q), c4, itn (fun c => q2 (e2.mp c))]
      · unfold f_X6_brownout
        rw [itn (fun c => (eM _).mp c q), hτ.nm 4 (by omega), itn (fun c => q2 (e2.mp c))]
  · refine op_same hC hv hh hn hL hT (-1) ⟨out_ok, ⟨fun c => absurd ((eC _).mp c) q, fun _ => trivial⟩⟩ (q_same ?_) (fun τ hτ => m_same hτ ⟨in_ok, ⟨fun _ => trivial, fun c => absurd ((eM _).mpr q) c⟩⟩ ?_)
    · unfold f_X5_brownout
      rw [itn (fun c => q ((eC _).mp c))]
    · unfold f_X6_brownout
      rw [itp ((eM _).mpr q)]
