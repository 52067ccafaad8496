set_option linter.all false
/-! the class's calls, in numbers: v the 62 numbers now, n states hs behind them -/
def IS (N : Int) (σ : Sg) (v : Nat → Int) (n : Nat) (hs : Nat → Nat → Int) : Prop := AC σ v n hs 0 (fun _ => 0) ∧ VS N v ∧ (∀ j, j < n → VS N (hs j)) ∧ n ≤ 4
section K1
variable {N : Int} {σ : Sg} {v : Nat → Int} {n : Nat} {hs : Nat → Nat → Int}
theorem IS.nc (h : IS N σ v n hs) : NC σ v := h.1.nc
theorem IS.up {M : Int} (h : IS N σ v n hs) (hN : N ≤ M) : IS M σ v n hs := ⟨h.1, h.2.1.up hN, fun j hj => (h.2.2.1 j hj).up hN, h.2.2.2⟩
theorem IS.kp (h : IS N σ v n hs) : ok_X2_keep σ ∧ AC (f_X2_keep σ) v (pn n) (ph n hs v) 0 (fun _ => 0) ∧ (∀ c, (c < 6 ∨ 28 ≤ c) → f_X2_keep σ c = σ c) ∧ IS N (f_X2_keep σ) v (pn n) (ph n hs v) := by
  have k := keep_C h.1 h.2.2.2 h.2.1.2.1
  obtain ⟨k1, k2⟩ := k.2 _ rfl
  exact ⟨k.1, k1, k2, k1, h.2.1, ph_vs h.2.1 h.2.2.1 h.2.2.2, pn_le h.2.2.2⟩
theorem IS.st (h : IS N σ v n hs) {c s k0 : Nat} {z : Int} (hp : (c = 1 ∧ k0 < 7 ∧ s = vwo k0) ∨ (c = 2 ∧ s < 4 ∧ k0 = 7 + s) ∨ (c = 3 ∧ s < 24 ∧ k0 = 11 + s) ∨ (c = 4 ∧ s < 3 ∧ k0 = 35 + s) ∨ (c = 5 ∧ s < 24 ∧ k0 = 38 + s)) (hz : VK N k0 z) : IS N (pu σ c s (zI z)) (vu v k0 z) n hs :=
  ⟨h.1.upd hp, h.2.1.vu hz, h.2.2.1, h.2.2.2⟩
theorem IS.of {F : Int32 × Sg} {r : Int} {v' : Nat → Int} {n' : Nat} {hs' : Nat → Nat → Int} (h : ∀ q : Int32 × Sg, q = F → q.1 = zI r ∧ AC q.2 v' n' hs' 0 (fun _ => 0)) (h1 : VS N v') (h2 : ∀ j, j < n' → VS N (hs' j)) (h3 : n' ≤ 4) : ∃ τ, F = (zI r, τ) ∧ IS N τ v' n' hs' := by
  obtain ⟨a, b⟩ := h F rfl
  exact ⟨F.2, by rw [← a], b, h1, h2, h3⟩
theorem k_power (h : IS N σ v n hs) {P : Int} (q : 0 ≤ P ∧ P ≤ 1) : ok_X5_power (zI P) σ ∧ ∃ τ, f_X5_power (zI P) σ = (zI (v 1), τ) ∧ IS N τ (vu v 1 P) (pn n) (ph n hs v) := by
  have hv := h.2.1
  have hP : zB P := by unfold zB; omega
  have eC : ∀ s : Sg, (f_X5_isOutside (zI P) 0 1 s = 0) ↔ (0 ≤ P ∧ P ≤ 1) := fun s => out_iff (b := 0) (c := 1) hP (by unfold zB; omega) (by unfold zB; omega)
  obtain ⟨k0, k1, k2, k3⟩ := h.kp
  have e1 : (zI P = 1) ↔ P = 1 := by rw [z_n]; exact z_eq hP (by unfold zB; omega)
  refine ⟨⟨out_ok, ⟨fun _ => ⟨k0, ⟨⟨fun _ => trivial, fun _ => trivial⟩, ⟨fun _ => ⟨z_nb (Or.inr rfl), trivial⟩, fun _ => ⟨z_nb (Or.inl rfl), trivial⟩⟩⟩⟩, fun c => absurd ((eC _).mpr q) c⟩⟩, pu (f_X2_keep σ) 1 2 (zI P), ?_, k3.st (Or.inl ⟨rfl, by omega, rfl⟩) (by unfold VK; omega)⟩
  have t : f_X5_toNumber (f_X2_keep σ 1 2) (f_X2_keep σ) = zI (v 1) := by
    unfold f_X5_toNumber
    rw [k1.nc.s2]
    rcases hv.2.1 with e | e
    · rw [e, itp (by decide)]; rfl
    · rw [e, itn (by decide)]; rfl
  unfold f_X5_power f_X5_power_47
  rw [itp ((eC _).mpr q)]
  dsimp only
  rw [t]
  by_cases q1 : P = 1
  · rw [itp (e1.mpr q1), q1]; rfl
  · rw [itn (fun c => q1 (e1.mp c)), show P = 0 by omega]; rfl
theorem k_charge (h : IS N σ v n hs) {P : Int} (q : 0 ≤ P ∧ P ≤ 999) : ok_X5_charge (zI P) σ ∧ ∃ τ, f_X5_charge (zI P) σ = (zI (v 3), τ) ∧ IS N τ (vu v 3 P) (pn n) (ph n hs v) := by
  have hP : zB P := by unfold zB; omega
  have eC : ∀ s : Sg, (f_X5_isOutside (zI P) 0 999 s = 0) ↔ (0 ≤ P ∧ P ≤ 999) := fun s => out_iff (b := 0) (c := 999) hP (by unfold zB; omega) (by unfold zB; omega)
  obtain ⟨k0, k1, k2, k3⟩ := h.kp
  refine ⟨⟨out_ok, ⟨fun _ => ⟨k0, trivial⟩, fun _ => trivial⟩⟩, pu (f_X2_keep σ) 1 3 (zI P), ?_, k3.st (Or.inl ⟨rfl, by omega, rfl⟩) (by unfold VK; omega)⟩
  unfold f_X5_charge
  rw [itp ((eC _).mpr q)]
  dsimp only
  rw [k1.nc.s3]
theorem k_brown (h : IS N σ v n hs) {P : Int} (q : 1 ≤ P ∧ P ≤ 9) (q2 : v 4 + P ≤ 99) : ok_X5_brownout (zI P) σ ∧ ∃ τ, f_X5_brownout (zI P) σ = (zI (v 4 + P), τ) ∧ IS N τ (vu v 4 (v 4 + P)) (pn n) (ph n hs v) := by
  have v4 := h.2.1.2.2.2.2.1
  have hP : zB P := by unfold zB; omega
  have eC : ∀ s : Sg, (f_X5_isOutside (zI P) 1 9 s = 0) ↔ (1 ≤ P ∧ P ≤ 9) := fun s => out_iff (b := 1) (c := 9) hP (by unfold zB; omega) (by unfold zB; omega)
  obtain ⟨k0, k1, k2, k3⟩ := h.kp
  have e2 : (zI (v 4) + zI P ≤ 99) ↔ v 4 + P ≤ 99 := by rw [z_add, z_n]; exact z_le (by unfold zB; omega) (by unfold zB; omega)
  refine ⟨⟨out_ok, ⟨fun _ => ⟨fun _ => ⟨k0, trivial⟩, fun _ => trivial⟩, fun _ => trivial⟩⟩, pu (f_X2_keep σ) 1 4 (zI (v 4 + P)), ?_, k3.st (Or.inl ⟨rfl, by omega, rfl⟩) (by unfold VK; omega)⟩
  unfold f_X5_brownout
  rw [itp ((eC _).mpr q), h.nc.s4, itp (e2.mpr q2)]
  dsimp only
  rw [k1.nc.s4, z_add, pu_at]
theorem k_brownL (h : IS N σ v n hs) {P : Int} (q : 1 ≤ P ∧ P ≤ 9) (q2 : ¬ v 4 + P ≤ 99) : ok_X5_brownout (zI P) σ ∧ f_X5_brownout (zI P) σ = (-3, σ) := by
  have v4 := h.2.1.2.2.2.2.1
  have hP : zB P := by unfold zB; omega
  have eC : ∀ s : Sg, (f_X5_isOutside (zI P) 1 9 s = 0) ↔ (1 ≤ P ∧ P ≤ 9) := fun s => out_iff (b := 1) (c := 9) hP (by unfold zB; omega) (by unfold zB; omega)
  have e2 : (zI (v 4) + zI P ≤ 99) ↔ v 4 + P ≤ 99 := by rw [z_add, z_n]; exact z_le (by unfold zB; omega) (by unfold zB; omega)
  refine ⟨⟨out_ok, ⟨fun _ => ⟨fun c => absurd (by rw [h.nc.s4] at c; exact e2.mp c) q2, fun _ => trivial⟩, fun _ => trivial⟩⟩, ?_⟩
  unfold f_X5_brownout
  rw [itp ((eC _).mpr q), h.nc.s4, itn (fun c => q2 (e2.mp c))]
theorem k_disk (h : IS N σ v n hs) {t s : Nat} {P : Int} (ht : t < 3) (hs8 : s < 8) (q : -9 ≤ P ∧ P ≤ 9) : ok_X5_disk (zI t) (zI s) (zI P) σ ∧ ∃ τ, f_X5_disk (zI t) (zI s) (zI P) σ = (zI (v (11 + (8 * t + s)) + 100), τ) ∧ IS N τ (vu v (11 + (8 * t + s)) P) (pn n) (ph n hs v) := by
  have hP : zB P := by unfold zB; omega
  have hP1 : zB (t : Int) := by unfold zB; omega
  have hP2 : zB (s : Int) := by unfold zB; omega
  have q1 : (0 ≤ (t : Int) ∧ (t : Int) ≤ 2) ∧ 0 ≤ (s : Int) ∧ (s : Int) ≤ 7 := by omega
  have eC : ∀ s : Sg, (f_X5_isOutside (zI P) (-9) 9 s = 0) ↔ (-9 ≤ P ∧ P ≤ 9) := fun s => by rw [zm9]; exact out_iff (b := -9) (c := 9) hP (by unfold zB; omega) (by unfold zB; omega)
  obtain ⟨k0, k1, k2, k3⟩ := h.kp
  refine ⟨⟨ce_okC, ⟨fun _ => trivial, fun _ => ⟨out_ok, ⟨fun _ => ⟨k0, trivial, at_ok (by decide), trivial, put_ok (by decide), trivial⟩, fun _ => trivial⟩⟩⟩⟩, pu (f_X2_keep σ) 3 (8 * t + s) (zI P), ?_, k3.st (by omega) (by unfold VK; omega)⟩
  unfold f_X5_disk
  rw [itn (fun c => (ce_C hP1 hP2).mp c q1), itp ((eC _).mpr q)]
  dsimp only
  rw [cell_C, at_in (show 8 * t + s < o_len 3 by show _ < 24; omega) (by decide), put_in (show 8 * t + s < o_len 3 by show _ < 24; omega) (by decide)]
  show (f_X2_keep σ 3 (8 * t + s) + 100, _) = _
  rw [k1.nc.err (by omega)]
  exact congrArg (fun x => (x, _)) (z_add _ 100)
theorem k_correct (h : IS N σ v n hs) {t s : Nat} {P : Int} (ht : t < 3) (hs8 : s < 8) (q : -20 ≤ P ∧ P ≤ 20) : ok_X5_correct (zI t) (zI s) (zI P) σ ∧ ∃ τ, f_X5_correct (zI t) (zI s) (zI P) σ = (zI (v (38 + (8 * t + s)) + 100), τ) ∧ IS N τ (vu v (38 + (8 * t + s)) P) (pn n) (ph n hs v) := by
  have hP : zB P := by unfold zB; omega
  have hP1 : zB (t : Int) := by unfold zB; omega
  have hP2 : zB (s : Int) := by unfold zB; omega
  have q1 : (0 ≤ (t : Int) ∧ (t : Int) ≤ 2) ∧ 0 ≤ (s : Int) ∧ (s : Int) ≤ 7 := by omega
  have eC : ∀ s : Sg, (f_X5_isOutside (zI P) (-20) 20 s = 0) ↔ (-20 ≤ P ∧ P ≤ 20) := fun s => by rw [zm20]; exact out_iff (b := -20) (c := 20) hP (by unfold zB; omega) (by unfold zB; omega)
  obtain ⟨k0, k1, k2, k3⟩ := h.kp
  refine ⟨⟨ce_okC, ⟨fun _ => trivial, fun _ => ⟨out_ok, ⟨fun _ => ⟨k0, trivial, at_ok (by decide), trivial, put_ok (by decide), trivial⟩, fun _ => trivial⟩⟩⟩⟩, pu (f_X2_keep σ) 5 (8 * t + s) (zI P), ?_, k3.st (by omega) (by unfold VK; omega)⟩
  unfold f_X5_correct
  rw [itn (fun c => (ce_C hP1 hP2).mp c q1), itp ((eC _).mpr q)]
  dsimp only
  rw [cell_C, at_in (show 8 * t + s < o_len 5 by show _ < 24; omega) (by decide), put_in (show 8 * t + s < o_len 5 by show _ < 24; omega) (by decide)]
  show (f_X2_keep σ 5 (8 * t + s) + 100, _) = _
  rw [k1.nc.cor (by omega)]
  exact congrArg (fun x => (x, _)) (z_add _ 100)
theorem k_noise (h : IS N σ v n hs) {t : Nat} {P : Int} (ht : t < 3) (q : -9 ≤ P ∧ P ≤ 9) : ok_X5_noise (zI t) (zI P) σ ∧ ∃ τ, f_X5_noise (zI t) (zI P) σ = (zI (v (35 + t) + 100), τ) ∧ IS N τ (vu v (35 + t) P) (pn n) (ph n hs v) := by
  have hP : zB P := by unfold zB; omega
  have hP1 : zB (t : Int) := by unfold zB; omega
  have q1 : 0 ≤ (t : Int) ∧ (t : Int) ≤ 2 := by omega
  have eC : ∀ s : Sg, (f_X5_isOutside (zI P) (-9) 9 s = 0) ↔ (-9 ≤ P ∧ P ≤ 9) := fun s => by rw [zm9]; exact out_iff (b := -9) (c := 9) hP (by unfold zB; omega) (by unfold zB; omega)
  obtain ⟨k0, k1, k2, k3⟩ := h.kp
  refine ⟨⟨tr_okC, ⟨fun _ => trivial, fun _ => ⟨out_ok, ⟨fun _ => ⟨k0, at_ok (by decide), put_ok (by decide), trivial⟩, fun _ => trivial⟩⟩⟩⟩, pu (f_X2_keep σ) 4 t (zI P), ?_, k3.st (by omega) (by unfold VK; omega)⟩
  unfold f_X5_noise
  rw [itn (fun c => (tr_C hP1).mp c q1), itp ((eC _).mpr q)]
  dsimp only
  rw [at_in (show t < o_len 4 by show _ < 3; omega) (by decide), put_in (show t < o_len 4 by show _ < 3; omega) (by decide)]
  show (f_X2_keep σ 4 t + 100, _) = _
  rw [k1.nc.noi (by omega)]
  exact congrArg (fun x => (x, _)) (z_add _ 100)
theorem k_setting (h : IS N σ v n hs) {t : Nat} {P : Int} (ht : t < 4) (q : sLo t ≤ P ∧ P ≤ sHi t) : ok_X5_set (zI t) (zI P) σ ∧ ∃ τ, f_X5_set (zI t) (zI P) σ = (zI (if t = 3 then v (7 + t) + 100 else v (7 + t) + 0), τ) ∧ IS N τ (vu v (7 + t) P) (pn n) (ph n hs v) := by
  have bs := sB t
  have hP1 : zB (t : Int) := by unfold zB; omega
  have hP2 : zB P := by unfold zB; omega
  have q1 : 0 ≤ (t : Int) ∧ (t : Int) ≤ 3 := by omega
  have eC : ∀ s : Sg, (f_X5_isOutside (zI t) 0 3 s = 0) ↔ (0 ≤ (t : Int) ∧ (t : Int) ≤ 3) := fun s => out_iff (b := 0) (c := 3) hP1 (by unfold zB; omega) (by unfold zB; omega)
  have eD : ∀ s : Sg, (f_X5_isOutside (zI P) (f_X5_at 42 (zI t) s) (f_X5_at 43 (zI t) s) s = 0) ↔ (sLo t ≤ P ∧ P ≤ sHi t) := fun s => by rw [sLo_C ht, sHi_C ht]; exact out_iff hP2 (by unfold zB; omega) (by unfold zB; omega)
  obtain ⟨k0, k1, k2, k3⟩ := h.kp
  refine ⟨⟨out_ok, ⟨fun _ => ⟨at_ok (by decide), at_ok (by decide), out_ok, ⟨fun _ => ⟨k0, shown_ok, put_ok (by decide), trivial⟩, fun _ => trivial⟩⟩, fun _ => trivial⟩⟩, pu (f_X2_keep σ) 2 t (zI P), ?_, k3.st (by omega) ?_⟩
  · unfold f_X5_set
    rw [itp ((eC _).mpr q1)]
    dsimp only
    rw [itp ((eD _).mpr q), put_in (show t < o_len 2 from ht) (by decide), shown_C k1.nc ht]
  · rcases (by omega : t = 0 ∨ t = 1 ∨ t = 2 ∨ t = 3) with e | e | e | e
    · rw [e] at q ⊢
      have q3 : 0 ≤ P ∧ P ≤ 40 := q
      unfold VK; omega
    · rw [e] at q ⊢
      have q3 : 0 ≤ P ∧ P ≤ 32 := q
      unfold VK; omega
    · rw [e] at q ⊢
      have q3 : 1 ≤ P ∧ P ≤ 4080 := q
      unfold VK; omega
    · rw [e] at q ⊢
      have q3 : -31 ≤ P ∧ P ≤ 31 := q
      unfold VK; omega
theorem k_forget (h : IS N σ v n hs) (hN : 0 ≤ N) : ok_X5_forget σ ∧ ∃ τ, f_X5_forget σ = (zI (if v 5 = -1 then 0 else 1), τ) ∧ IS N τ (vu (vu v 5 (-1)) 6 0) (pn n) (ph n hs v) := by
  have v5 := h.2.1.2.2.2.2.2.1
  have e1 : (zI (v 5) = -1) ↔ v 5 = -1 := by rw [z_m1]; exact z_eq (by unfold zB; omega) (by unfold zB; omega)
  obtain ⟨k0, k1, k2, k3⟩ := h.kp
  have u1 : IS N (pu (pu (f_X2_keep σ) 1 5 (zI (-1))) 1 6 (zI 0)) (vu (vu v 5 (-1)) 6 0) (pn n) (ph n hs v) := (k3.st (c := 1) (s := 5) (k0 := 5) (z := -1) (Or.inl ⟨rfl, by omega, rfl⟩) (by unfold VK; omega)).st (c := 1) (s := 6) (k0 := 6) (z := 0) (Or.inl ⟨rfl, by omega, rfl⟩) (by unfold VK; omega)
  refine ⟨⟨k0, ⟨fun _ => ⟨⟨fun _ => trivial, fun _ => trivial⟩, trivial⟩, fun _ => ⟨⟨fun _ => trivial, fun _ => trivial⟩, trivial⟩⟩⟩, _, ?_, u1⟩
  unfold f_X5_forget f_X5_forget_27
  dsimp only
  rw [k1.nc.s5]
  by_cases q5 : v 5 = -1
  · rw [itp (e1.mpr q5), if_pos q5]
    unfold f_X5_toNumber
    rw [itp rfl]
    rfl
  · rw [itn (fun c => q5 (e1.mp c)), if_neg q5]
    unfold f_X5_toNumber
    rw [itn (by decide)]
    rfl
theorem k_undo (h : IS N σ v n hs) (h0 : 0 < n) : ok_X5_undo σ ∧ ∃ τ, f_X5_undo σ = (zI ((n - 1 : Nat) : Int), τ) ∧ IS N τ (hs (n - 1)) (n - 1) hs := by
  have u := undo_C h.1 h.2.2.2 (fun j hj => (h.2.2.1 j hj).2.1)
  refine ⟨u.1, IS.of (fun q e => ⟨(u.2.2 h0 q e).1, (u.2.2 h0 q e).2.1⟩) (h.2.2.1 (n - 1) (by omega)) (fun j hj => h.2.2.1 j (by omega)) (by have := h.2.2.2; omega)⟩
theorem k_undo0 (h : IS N σ v n hs) (h0 : n = 0) : ok_X5_undo σ ∧ f_X5_undo σ = (-2, σ) := by
  have u := undo_C h.1 h.2.2.2 (fun j hj => (h.2.2.1 j hj).2.1)
  exact ⟨u.1, u.2.1 h0⟩
theorem k_learn (h : IS N σ v n hs) (q0 : -20 ≤ aEx v 0 ∧ aEx v 0 ≤ 20) (q1 : -20 ≤ aEx v 1 ∧ aEx v 1 ≤ 20) (q2 : -20 ≤ aEx v 2 ∧ aEx v 2 ≤ 20) : ok_X5_learn σ ∧ ∃ τ, f_X5_learn σ = (zI (lB v 0 (sec (aAng v)) + lB v 1 (sec (aAng v)) + lB v 2 (sec (aAng v))), τ) ∧ IS N τ (lV v (sec (aAng v))) (pn n) (ph n hs v) ∧ ∀ c, 34 ≤ c → τ c = σ c := by
  have a := learn_C h.1 h.2.1 h.2.2.2 q0 q1 q2
  obtain ⟨b1, b2, b3⟩ := a.2 _ rfl
  refine ⟨a.1, (f_X5_learn σ).2, by rw [← b1], ⟨b2, lV_vs h.2.1 (sec_b (aAng_b v)).1 q0 q1 q2, ph_vs h.2.1 h.2.2.1 h.2.2.2, pn_le h.2.2.2⟩, b3⟩
def tV (v : Nat → Int) (Q : Int) : Nat → Int := vu (cxs (if 0 ≤ Q / 1020 - v 0 / 1020 then 1 else -1) (if 0 ≤ Q / 1020 - v 0 / 1020 then Q / 1020 - v 0 / 1020 else 0 - (Q / 1020 - v 0 / 1020)).toNat v) 0 Q
theorem k_turn (h : IS N σ v n hs) {P : Int} (q1 : -9999 ≤ P ∧ P ≤ 9999) (q2 : 0 ≤ v 0 + P ∧ v 0 + P ≤ 65279) : ok_X5_turn (zI P) σ ∧ ∃ τ, f_X5_turn (zI P) σ = (zI (v 0 + P), τ) ∧ IS N τ (tV v (v 0 + P)) (pn n) (ph n hs v) := by
  have hv := h.2.1
  have v0 := hv.1
  have hP : zB P := by unfold zB; omega
  have eC : ∀ s : Sg, (f_X5_isOutside (zI P) (-9999) 9999 s = 0) ↔ (-9999 ≤ P ∧ P ≤ 9999) := fun s => by rw [zm9999]; exact out_iff (b := -9999) (c := 9999) hP (by unfold zB; omega) (by unfold zB; omega)
  have zC : σ 1 0 + zI P = zI (v 0 + P) := by rw [h.nc.s0, z_add]
  have fC : ∀ s : Sg, (f_X5_isOutside (zI (v 0 + P)) 0 65279 s = 0) ↔ (0 ≤ v 0 + P ∧ v 0 + P ≤ 65279) := fun s => out_iff (b := 0) (c := 65279) (by unfold zB; omega) (by unfold zB; omega) (by unfold zB; omega)
  obtain ⟨k0, k1, k2, k3⟩ := h.kp
  obtain ⟨Q, hQ⟩ : ∃ Q : Int, Q = v 0 + P := ⟨_, rfl⟩
  obtain ⟨D, hD⟩ : ∃ D : Int, D = Q / 1020 - v 0 / 1020 := ⟨_, rfl⟩
  have bD : -100 ≤ D ∧ D ≤ 100 := by omega
  obtain ⟨A, hA⟩ : ∃ A : Int, A = (if 0 ≤ D then D else 0 - D) := ⟨_, rfl⟩
  have hA2 : 0 ≤ A ∧ A ≤ 100 ∧ (0 ≤ D → A = D) ∧ (D < 0 → A = - D) := by rw [hA]; split <;> omega
  obtain ⟨s, hs0⟩ : ∃ s : Int, s = if 0 ≤ D then 1 else -1 := ⟨_, rfl⟩
  have hsg : s = 1 ∧ 0 ≤ D ∨ s = -1 ∧ D < 0 := by rw [hs0]; split <;> omega
  have zD : (zI Q / 1020) - (f_X2_keep σ 1 0 / 1020) = zI D := by
    rw [k1.nc.s0, z_1020 ⟨by omega, by omega⟩, z_1020 ⟨by omega, by omega⟩, z_sub, hD]
  have e0 : ((0 : Int32) ≤ zI D) ↔ 0 ≤ D := by rw [z_0]; exact z_le (by unfold zB; omega) (by unfold zB; omega)
  have tC := turn_C (Q := Q) (D := D) (s := s) (by omega) bD oF 0 _ v k1 hv (by rw [← hA]; omega) (by rw [← hA, oF_eq]; omega)
  rw [← hA, show (A - ((0 : Nat) : Int)).toNat = A.toNat by omega] at tC
  have o1 : ok_X5_turn_81 oF (zI Q) (zI D) (zI s) 0 (f_X2_keep σ) := tC.1
  have eV : tV v (v 0 + P) = vu (cxs s A.toNat v) 0 Q := by
    unfold tV
    rw [← hQ, ← hD, ← hA, ← hs0]
  have hvs : VS N (vu (cxs s A.toNat v) 0 Q) := (cxs_vs _ _ hv).vu (by unfold VK; omega)
  have e' : f_X5_turn (zI P) σ = f_X5_turn_81 oF (zI Q) (zI D) (zI s) (zI ((0 : Nat) : Int)) (f_X2_keep σ) := by
    unfold f_X5_turn
    rw [itp ((eC _).mpr q1), zC, itp ((fC _).mpr q2)]
    dsimp only
    rw [← hQ, zD]
    by_cases d : 0 ≤ D
    · rw [itp (e0.mpr d)]
      have hs1 : s = 1 := by rw [hs0, if_pos d]
      rw [hs1]
      rfl
    · rw [itn (fun c => d (e0.mp c))]
      have hs1 : s = -1 := by rw [hs0, if_neg d]
      rw [hs1]
      rfl
  constructor
  · refine ⟨out_ok, ⟨fun _ => ⟨out_ok, ⟨fun _ => ⟨k0, ?_⟩, fun _ => trivial⟩⟩, fun _ => trivial⟩⟩
    dsimp only
    rw [zC, ← hQ, zD]
    refine ⟨fun c => ?_, fun c => ?_⟩
    · have hs1 : s = 1 := by rw [hs0, if_pos (e0.mp c)]
      rw [hs1] at o1
      exact o1
    · have hs1 : s = -1 := by rw [hs0, if_neg (fun d => c (e0.mpr d))]
      rw [hs1] at o1
      exact o1
  · rw [eV, e', ← hQ]
    exact IS.of (fun q e => ⟨(tC.2 q e).1, (tC.2 q e).2.1⟩) hvs k3.2.2.1 k3.2.2.2
theorem k_turnN (h : IS N σ v n hs) {P : Int} (q1 : -9999 ≤ P ∧ P ≤ 9999) (q2 : ¬ (0 ≤ v 0 + P ∧ v 0 + P ≤ 65279)) : ok_X5_turn (zI P) σ ∧ f_X5_turn (zI P) σ = (-2, σ) := by
  have v0 := h.2.1.1
  have hP : zB P := by unfold zB; omega
  have eC : ∀ s : Sg, (f_X5_isOutside (zI P) (-9999) 9999 s = 0) ↔ (-9999 ≤ P ∧ P ≤ 9999) := fun s => by rw [zm9999]; exact out_iff (b := -9999) (c := 9999) hP (by unfold zB; omega) (by unfold zB; omega)
  have zC : σ 1 0 + zI P = zI (v 0 + P) := by rw [h.nc.s0, z_add]
  have fC : ∀ s : Sg, (f_X5_isOutside (zI (v 0 + P)) 0 65279 s = 0) ↔ (0 ≤ v 0 + P ∧ v 0 + P ≤ 65279) := fun s => out_iff (b := 0) (c := 65279) (by unfold zB; omega) (by unfold zB; omega) (by unfold zB; omega)
  refine ⟨⟨out_ok, ⟨fun _ => ⟨out_ok, ⟨fun c => absurd ((fC _).mp (by rw [zC] at c; exact c)) q2, fun _ => trivial⟩⟩, fun _ => trivial⟩⟩, ?_⟩
  unfold f_X5_turn
  rw [itp ((eC _).mpr q1), zC, itn (fun c => q2 ((fC _).mp c))]
end K1
