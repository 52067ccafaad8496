set_option linter.all false
theorem aEx_vu {v : Nat → Int} {t k : Nat} {x : Int} (ht : t < 3) (h0 : 0 ≤ v 0 ∧ v 0 < 65280) (hk : 38 ≤ k) : aEx (vu v k x) t = aEx v t := by
  have hs := (sec_b (aAng_b v)).1
  have e0 : vu v k x 0 = v 0 := if_neg (by omega)
  have ea : aAng (vu v k x) = aAng v := by unfold aAng; rw [e0]
  have er : aRd (vu v k x) t (aAng v) = aRd v t (aAng v) := by
    unfold aRd
    have a1 : vu v k x (11 + (8 * t + sec (aAng v))) = v (11 + (8 * t + sec (aAng v))) := if_neg (by omega)
    have a2 : vu v k x (35 + t) = v (35 + t) := if_neg (by omega)
    rw [a1, a2]
  unfold aEx
  rw [ea, er]
theorem aEx_b {v : Nat → Int} {t : Nat} : -1000 ≤ aEx v t ∧ aEx v t ≤ 1000 := by
  have hl := aLen_b t
  have b0 := Int.emod_nonneg (aRd v t (aAng v) - aAng v) (show aLen t ≠ 0 by omega)
  have b1 := Int.emod_lt_of_pos (aRd v t (aAng v) - aAng v) (show 0 < aLen t by omega)
  unfold aEx
  split <;> omega
def lB (v : Nat → Int) (t s : Nat) : Int := if v (38 + (8 * t + s)) = aEx v t then 0 else 1
def lV (v : Nat → Int) (s : Nat) : Nat → Int := vu (vu (vu v (38 + (8 * 0 + s)) (aEx v 0)) (38 + (8 * 1 + s)) (aEx v 1)) (38 + (8 * 2 + s)) (aEx v 2)
theorem learn_put {σ : Sg} {s t : Nat} {x : Int32} (h : 8 * t + s < 24) : f_X5_put 5 (f_X5_cell (zI t) (zI s) σ) x σ = pu σ 5 (8 * t + s) x := by
  rw [cell_C, put_in (show 8 * t + s < o_len 5 from h) (by decide)]
theorem learn_at {σ : Sg} {v : Nat → Int} {s t : Nat} (hn : NC σ v) (h : 8 * t + s < 24) : f_X5_at 5 (f_X5_cell (zI t) (zI s) σ) σ = zI (v (38 + (8 * t + s))) := by
  rw [cell_C, at_in (show 8 * t + s < o_len 5 from h) (by decide)]
  exact hn.cor h
theorem lV_vs {v : Nat → Int} {s : Nat} {N : Int} (hv : VS N v) (hs : s < 8) (h0 : -20 ≤ aEx v 0 ∧ aEx v 0 ≤ 20) (h1 : -20 ≤ aEx v 1 ∧ aEx v 1 ≤ 20) (h2 : -20 ≤ aEx v 2 ∧ aEx v 2 ≤ 20) : VS N (lV v s) :=
  ((hv.vu (by unfold VK; omega)).vu (by unfold VK; omega)).vu (by unfold VK; omega)
theorem learn_C {σ : Sg} {v : Nat → Int} {n : Nat} {hs : Nat → Nat → Int} {L : Nat} {tx : Nat → Int} {N : Int} (hC : AC σ v n hs L tx) (hv : VS N v) (hn : n ≤ 4) (q0 : -20 ≤ aEx v 0 ∧ aEx v 0 ≤ 20) (q1 : -20 ≤ aEx v 1 ∧ aEx v 1 ≤ 20) (q2 : -20 ≤ aEx v 2 ∧ aEx v 2 ≤ 20) :
    ok_X5_learn σ ∧ ∀ q : Int32 × Sg, q = f_X5_learn σ → q.1 = zI (lB v 0 (sec (aAng v)) + lB v 1 (sec (aAng v)) + lB v 2 (sec (aAng v))) ∧ AC q.2 (lV v (sec (aAng v))) (pn n) (ph n hs v) L tx ∧ ∀ c, 34 ≤ c → q.2 c = σ c := by
  have hkeep := keep_C hC hn hv.2.1
  obtain ⟨k1, k2⟩ := hkeep.2 _ rfl
  obtain ⟨w, hw⟩ : ∃ w : Sg, w = f_X2_keep σ := ⟨_, rfl⟩
  rw [← hw] at k1 k2
  have x0 := ex_C (t := 0) hC.nc hv (by omega)
  have x1 := ex_C (t := 1) hC.nc hv (by omega)
  have x2 := ex_C (t := 2) hC.nc hv (by omega)
  have ba := aAng_b v
  obtain ⟨s, hs'⟩ : ∃ s : Nat, s = sec (aAng v) := ⟨_, rfl⟩
  have hs8 : s < 8 := by rw [hs']; exact (sec_b ba).1
  rw [← hs']
  have ag := ang_C k1.nc hv.1
  have es : f_X5_sectorOf (f_X3_angle w) w = zI s := by rw [ag.2, hs']; exact secI ba
  have e0 : f_X3_excess 0 w = zI (aEx v 0) := (ex_C (t := 0) k1.nc hv (by omega)).2
  have c0 : ∀ t : Sg, (f_X5_isOutside (zI (aEx v 0)) (-20) 20 t = 0) ↔ (-20 ≤ aEx v 0 ∧ aEx v 0 ≤ 20) := fun t => by have := aEx_b (v := v) (t := 0); rw [zm20]; exact out_iff (b := -20) (c := 20) (by unfold zB; omega) (by unfold zB; omega) (by unfold zB; omega)
  have c1 : ∀ t : Sg, (f_X5_isOutside (zI (aEx v 1)) (-20) 20 t = 0) ↔ (-20 ≤ aEx v 1 ∧ aEx v 1 ≤ 20) := fun t => by have := aEx_b (v := v) (t := 1); rw [zm20]; exact out_iff (b := -20) (c := 20) (by unfold zB; omega) (by unfold zB; omega) (by unfold zB; omega)
  have c2 : ∀ t : Sg, (f_X5_isOutside (zI (aEx v 2)) (-20) 20 t = 0) ↔ (-20 ≤ aEx v 2 ∧ aEx v 2 ≤ 20) := fun t => by have := aEx_b (v := v) (t := 2); rw [zm20]; exact out_iff (b := -20) (c := 20) (by unfold zB; omega) (by unfold zB; omega) (by unfold zB; omega)
  have p0 : f_X5_put 5 (f_X5_cell 0 (zI s) w) (zI (aEx v 0)) w = pu w 5 (8 * 0 + s) (zI (aEx v 0)) := learn_put (t := 0) (by omega)
  have A1 : AC (pu w 5 (8 * 0 + s) (zI (aEx v 0))) (vu v (38 + (8 * 0 + s)) (aEx v 0)) (pn n) (ph n hs v) L tx := k1.upd (by omega)
  have V1 : VS N (vu v (38 + (8 * 0 + s)) (aEx v 0)) := hv.vu (by unfold VK; omega)
  obtain ⟨w1, hw1⟩ : ∃ w1 : Sg, w1 = pu w 5 (8 * 0 + s) (zI (aEx v 0)) := ⟨_, rfl⟩
  rw [← hw1] at A1 p0
  have y1 := ex_C (t := 1) A1.nc V1 (by omega)
  rw [aEx_vu (by omega) hv.1 (by omega)] at y1
  have e1 : f_X3_excess 1 w1 = zI (aEx v 1) := y1.2
  have p1 : f_X5_put 5 (f_X5_cell 1 (zI s) w1) (zI (aEx v 1)) w1 = pu w1 5 (8 * 1 + s) (zI (aEx v 1)) := learn_put (t := 1) (by omega)
  have A2 : AC (pu w1 5 (8 * 1 + s) (zI (aEx v 1))) (vu (vu v (38 + (8 * 0 + s)) (aEx v 0)) (38 + (8 * 1 + s)) (aEx v 1)) (pn n) (ph n hs v) L tx := A1.upd (by omega)
  have V2 : VS N (vu (vu v (38 + (8 * 0 + s)) (aEx v 0)) (38 + (8 * 1 + s)) (aEx v 1)) := V1.vu (by unfold VK; omega)
  obtain ⟨w2, hw2⟩ : ∃ w2 : Sg, w2 = pu w1 5 (8 * 1 + s) (zI (aEx v 1)) := ⟨_, rfl⟩
  rw [← hw2] at A2 p1
  have y2 := ex_C (t := 2) A2.nc V2 (by omega)
  rw [aEx_vu (by omega) V1.1 (by omega), aEx_vu (by omega) hv.1 (by omega)] at y2
  have e2 : f_X3_excess 2 w2 = zI (aEx v 2) := y2.2
  have p2 : f_X5_put 5 (f_X5_cell 2 (zI s) w2) (zI (aEx v 2)) w2 = pu w2 5 (8 * 2 + s) (zI (aEx v 2)) := learn_put (t := 2) (by omega)
  have A3 : AC (pu w2 5 (8 * 2 + s) (zI (aEx v 2))) (lV v s) (pn n) (ph n hs v) L tx := A2.upd (by omega)
  have g0 : f_X5_at 5 (f_X5_cell 0 (zI s) w) w = zI (v (38 + (8 * 0 + s))) := learn_at (t := 0) k1.nc (by omega)
  have g1 : f_X5_at 5 (f_X5_cell 1 (zI s) w1) w1 = zI (v (38 + (8 * 1 + s))) := by
    have r : f_X5_at 5 (f_X5_cell 1 (zI s) w1) w1 = _ := learn_at (t := 1) A1.nc (by omega)
    rw [r]
    exact congrArg zI (if_neg (by omega))
  have g2 : f_X5_at 5 (f_X5_cell 2 (zI s) w2) w2 = zI (v (38 + (8 * 2 + s))) := by
    have r : f_X5_at 5 (f_X5_cell 2 (zI s) w2) w2 = _ := learn_at (t := 2) A2.nc (by omega)
    rw [r]
    refine congrArg zI ((if_neg (by omega)).trans (if_neg (by omega)))
  have b38 := fun k (h1 : 38 ≤ k) (h2 : k < 62) => hv.2.2.2.2.2.2.2.2.2.2.2.2 k h1 h2
  have i0 : (zI (v (38 + (8 * 0 + s))) = zI (aEx v 0)) ↔ v (38 + (8 * 0 + s)) = aEx v 0 := by have := b38 (38 + (8 * 0 + s)) (by omega) (by omega); exact z_eq (by unfold zB; omega) (by unfold zB; omega)
  have i1 : (zI (v (38 + (8 * 1 + s))) = zI (aEx v 1)) ↔ v (38 + (8 * 1 + s)) = aEx v 1 := by have := b38 (38 + (8 * 1 + s)) (by omega) (by omega); exact z_eq (by unfold zB; omega) (by unfold zB; omega)
  have i2 : (zI (v (38 + (8 * 2 + s))) = zI (aEx v 2)) ↔ v (38 + (8 * 2 + s)) = aEx v 2 := by have := b38 (38 + (8 * 2 + s)) (by omega) (by omega); exact z_eq (by unfold zB; omega) (by unfold zB; omega)
  have x0' : f_X3_excess 0 σ = zI (aEx v 0) := x0.2
  have x1' : f_X3_excess 1 σ = zI (aEx v 1) := x1.2
  have x2' : f_X3_excess 2 σ = zI (aEx v 2) := x2.2
  constructor
  · have o1 : ok_X3_excess 1 (f_X5_put 5 (f_X5_cell 0 (f_X5_sectorOf (f_X3_angle w) w) w) (f_X3_excess 0 w) w) := by rw [es, e0, p0]; exact y1.1
    have o2 : ok_X3_excess 2 (f_X5_put 5 (f_X5_cell 1 (f_X5_sectorOf (f_X3_angle w) w) (f_X5_put 5 (f_X5_cell 0 (f_X5_sectorOf (f_X3_angle w) w) w) (f_X3_excess 0 w) w)) (f_X3_excess 1 (f_X5_put 5 (f_X5_cell 0 (f_X5_sectorOf (f_X3_angle w) w) w) (f_X3_excess 0 w) w)) (f_X5_put 5 (f_X5_cell 0 (f_X5_sectorOf (f_X3_angle w) w) w) (f_X3_excess 0 w) w)) := by rw [es, e0, p0, e1, p1]; exact y2.1
    have z0 := (ex_C (t := 0) k1.nc hv (by omega)).1
    have pk := ag.1
    unfold ok_X5_learn
    rw [← hw]
    exact ⟨x0.1, out_ok, ⟨fun _ => ⟨x1.1, out_ok, ⟨fun _ => ⟨x2.1, out_ok, ⟨fun _ => ⟨hkeep.1, pk, trivial, z0, trivial, at_ok (by decide),
      ⟨fun _ => ⟨trivial, put_ok (by decide), o1, trivial, at_ok (by decide), ⟨fun _ => ⟨trivial, put_ok (by decide), o2, trivial, at_ok (by decide), ⟨fun _ => ⟨trivial, put_ok (by decide), trivial⟩, fun _ => ⟨trivial, put_ok (by decide), trivial⟩⟩⟩, fun _ => ⟨trivial, put_ok (by decide), o2, trivial, at_ok (by decide), ⟨fun _ => ⟨trivial, put_ok (by decide), trivial⟩, fun _ => ⟨trivial, put_ok (by decide), trivial⟩⟩⟩⟩⟩,
       fun _ => ⟨trivial, put_ok (by decide), o1, trivial, at_ok (by decide), ⟨fun _ => ⟨trivial, put_ok (by decide), o2, trivial, at_ok (by decide), ⟨fun _ => ⟨trivial, put_ok (by decide), trivial⟩, fun _ => ⟨trivial, put_ok (by decide), trivial⟩⟩⟩, fun _ => ⟨trivial, put_ok (by decide), o2, trivial, at_ok (by decide), ⟨fun _ => ⟨trivial, put_ok (by decide), trivial⟩, fun _ => ⟨trivial, put_ok (by decide), trivial⟩⟩⟩⟩⟩⟩⟩, fun _ => trivial⟩⟩, fun _ => trivial⟩⟩, fun _ => trivial⟩⟩
  · refine qC (s' := pu w2 5 (8 * 2 + s) (zI (aEx v 2))) ?_ A3 (fun c hc => by rw [pu_ne (by omega), hw2, pu_ne (by omega), hw1, pu_ne (by omega), k2 c (Or.inr (by omega))])
    unfold f_X5_learn
    dsimp only
    rw [← hw, x0', x1', x2', itp ((c0 _).mpr q0), itp ((c1 _).mpr q1), itp ((c2 _).mpr q2), es, e0, p0, e1, p1, e2, p2, g0, g1, g2]
    unfold lB
    by_cases a : v (38 + (8 * 0 + s)) = aEx v 0
    · rw [itp (i0.mpr a), if_pos a]
      by_cases b : v (38 + (8 * 1 + s)) = aEx v 1
      · rw [itp (i1.mpr b), if_pos b]
        by_cases c : v (38 + (8 * 2 + s)) = aEx v 2
        · rw [itp (i2.mpr c), if_pos c]
          rfl
        · rw [itn (fun h => c (i2.mp h)), if_neg c]
          rfl
      · rw [itn (fun h => b (i1.mp h)), if_neg b]
        by_cases c : v (38 + (8 * 2 + s)) = aEx v 2
        · rw [itp (i2.mpr c), if_pos c]
          rfl
        · rw [itn (fun h => c (i2.mp h)), if_neg c]
          rfl
    · rw [itn (fun h => a (i0.mp h)), if_neg a]
      by_cases b : v (38 + (8 * 1 + s)) = aEx v 1
      · rw [itp (i1.mpr b), if_pos b]
        by_cases c : v (38 + (8 * 2 + s)) = aEx v 2
        · rw [itp (i2.mpr c), if_pos c]
          rfl
        · rw [itn (fun h => c (i2.mp h)), if_neg c]
          rfl
      · rw [itn (fun h => b (i1.mp h)), if_neg b]
        by_cases c : v (38 + (8 * 2 + s)) = aEx v 2
        · rw [itp (i2.mpr c), if_pos c]
          rfl
        · rw [itn (fun h => c (i2.mp h)), if_neg c]
          rfl
