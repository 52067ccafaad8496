set_option linter.all false
/-! one act; three changes undone -/
theorem ct23 {N : Int} {σ : Sg} {v : Nat → Int} {n : Nat} {hs : Nat → Nat → Int} (h : IS N σ v n hs) : ok_X5_count 23 σ ∧ f_X5_count 23 σ = zI (v 10 + 100) := k_count h (P := 23) (by unfold zB; omega)
theorem l_lowN (p : Int32) {d : Nat} {σ : Sg} (hd : 0 < d) (hd2 : d < 100000) : ok_L_low p (zI d) σ ∧ ∃ k : Nat, k < d ∧ ∀ τ : Sg, f_L_low p (zI d) τ = zI k := by
  obtain ⟨a, k, k0, k1, k2⟩ := l_low p (d := (d : Int)) (σ := σ) (by omega) (by omega)
  obtain ⟨j, rfl⟩ := Int.eq_ofNat_of_zero_le k0
  exact ⟨a, j, by omega, k2⟩
theorem pi_pair {N : Int} {ok : Prop} {F : Int32 × Sg} (h : G2 ok F (PI N)) (M : Int) (hM : N ≤ M) : G2 (ok ∧ ((narrow .boolean (.int F.1) = .int F.1) ∧ True)) (F.1, F.2) (PI M) := by
  obtain ⟨a, τ, v, n, hs, e, i⟩ := h
  rw [e]
  exact ⟨⟨a, (z_nb (Or.inr rfl)).1, trivial⟩, τ, v, n, hs, rfl, i.up hM⟩
section K9
variable {N : Int} {σ : Sg} {v : Nat → Int} {n : Nat} {hs : Nat → Nat → Int}
theorem fin9 (h : IS N σ v n hs) : G2 True ((1 : Int32), σ) (PI (N + 1)) := g_e ⟨σ, v, n, hs, rfl, h.up (by omega)⟩
theorem l_313 (h : IS N σ v n hs) {t : Nat} {P : Int} (ht : t < 4) (q : sLo t ≤ P ∧ P ≤ sHi t) : G2 (ok_L_acts_313 (zI t) (zI P) σ) (f_L_acts_313 (zI t) (zI P) σ) (PI (N + 1)) := by
  obtain ⟨k1, τ, k2, k3⟩ := k_setting h ht q
  have hv := h.2.1
  have w7 := hv.2.2.2.2.2.2.2.1
  have w8 := hv.2.2.2.2.2.2.2.2.1
  have w9 := hv.2.2.2.2.2.2.2.2.2.1
  have w10 := hv.2.2.2.2.2.2.2.2.2.2.1
  unfold ok_L_acts_313 f_L_acts_313 ok_L_acts_346 f_L_acts_346
  rw [k2]
  refine g_s k1 ?_
  dsimp only
  match t, ht with
  | 0, _ =>
    have c := ct20 k3
    have e : f_X5_count (20 + zI ((0 : Nat) : Int)) τ = zI P := c.2
    have o : ok_X5_count (20 + zI ((0 : Nat) : Int)) τ := c.1
    rw [e, if_neg (by omega)]
    exact g_n (n_lt (a := v 7 + 0) (b := 0) (by omega) (by unfold zB; omega) (by unfold zB; omega)) (g_s o (g_n (by decide) (g_t ((z_add P 0).trans (by rw [Int.add_zero])).symm (fin9 k3))))
  | 1, _ =>
    have c := ct21 k3
    have e : f_X5_count (20 + zI ((1 : Nat) : Int)) τ = zI P := c.2
    have o : ok_X5_count (20 + zI ((1 : Nat) : Int)) τ := c.1
    rw [e, if_neg (by omega)]
    exact g_n (n_lt (a := v 8 + 0) (b := 0) (by omega) (by unfold zB; omega) (by unfold zB; omega)) (g_s o (g_n (by decide) (g_t ((z_add P 0).trans (by rw [Int.add_zero])).symm (fin9 k3))))
  | 2, _ =>
    have c := ct22 k3
    have e : f_X5_count (20 + zI ((2 : Nat) : Int)) τ = zI P := c.2
    have o : ok_X5_count (20 + zI ((2 : Nat) : Int)) τ := c.1
    rw [e, if_neg (by omega)]
    exact g_n (n_lt (a := v 9 + 0) (b := 0) (by omega) (by unfold zB; omega) (by unfold zB; omega)) (g_s o (g_n (by decide) (g_t ((z_add P 0).trans (by rw [Int.add_zero])).symm (fin9 k3))))
  | 3, _ =>
    have c := ct23 k3
    have e : f_X5_count (20 + zI ((3 : Nat) : Int)) τ = zI (P + 100) := c.2
    have o : ok_X5_count (20 + zI ((3 : Nat) : Int)) τ := c.1
    rw [e, if_pos rfl]
    exact g_n (n_lt (a := v 10 + 100) (b := 0) (by omega) (by unfold zB; omega) (by unfold zB; omega)) (g_s o (g_t (by decide) (g_t (z_add P 100).symm (fin9 k3))))
theorem l_416 (h : IS N σ v n hs) (hN : 0 ≤ N) {y : Int} (hy : y = if v 5 = -1 then 0 else 1) : G2 (ok_L_acts_416 (zI y) σ) (f_L_acts_416 (zI y) σ) (PI (N + 1)) := by
  obtain ⟨k1, τ, k2, k3⟩ := k_forget h hN
  have c6 := ct6 k3
  have c7 := ct7 k3
  have e6 : f_X5_count 6 τ = -4 := c6.2
  have e7 : f_X5_count 7 τ = 0 := c7.2
  unfold ok_L_acts_416 f_L_acts_416
  rw [k2]
  refine g_s k1 ?_
  dsimp only
  rw [e6, e7]
  exact g_t (by rw [hy]) (g_s c6.1 (g_t rfl (g_s c7.1 (g_t rfl (fin9 k3)))))
theorem l_acts (h : IS N σ v n hs) (hN0 : 0 ≤ N) (hN : N ≤ 1000000000) (p1 p2 : Int32) : G2 (ok_L_acts p1 p2 σ) (f_L_acts p1 p2 σ) (PI (N + 1)) := by
  have hv := h.2.1
  have v1 := hv.2.1
  have v3 := hv.2.2.2.1
  have v4 := hv.2.2.2.2.1
  have v5 := hv.2.2.2.2.2.1
  have vE := hv.2.2.2.2.2.2.2.2.2.2.2.1
  have vC := hv.2.2.2.2.2.2.2.2.2.2.2.2
  have lo14 := l_low p1 (d := 14) (σ := σ) (by omega) (by omega)
  have tu := pi_pair (l_turned h p2) (N + 1) (by omega)
  have sd : G2 ((ok_L_low p2 3 σ) ∧ ((ok_L_low (p2 >>> ((6 : Int32) &&& 31)) 19 σ) ∧ (let v22 := ((f_L_low (p2 >>> ((6 : Int32) &&& 31)) 19 σ) - 9)
                (ok_L_low (p2 >>> ((2 : Int32) &&& 31)) 8 σ) ∧ ((ok_X5_disk (f_L_low p2 3 σ) (f_L_low (p2 >>> ((2 : Int32) &&& 31)) 8 σ) v22 σ) ∧ (let q25 := f_X5_disk (f_L_low p2 3 σ) (f_L_low (p2 >>> ((2 : Int32) &&& 31)) 8 σ) v22 σ
                ((q25.1 ≤ 90) →
                  True) ∧ (¬ (q25.1 ≤ 90) →
                  ((110 ≤ q25.1) →
                    True) ∧ (¬ (110 ≤ q25.1) →
                    (ok_L_low (p2 >>> ((2 : Int32) &&& 31)) 8 q25.2) ∧ ((ok_X5_disk (f_L_low p2 3 σ) (f_L_low (p2 >>> ((2 : Int32) &&& 31)) 8 q25.2) v22 q25.2) ∧ (let q28 := f_X5_disk (f_L_low p2 3 σ) (f_L_low (p2 >>> ((2 : Int32) &&& 31)) 8 q25.2) v22 q25.2
                    ((q28.1 = (v22 + 100)) →
                      True) ∧ (¬ (q28.1 = (v22 + 100)) →
                      True))))))))))
      (let v22 := ((f_L_low (p2 >>> ((6 : Int32) &&& 31)) 19 σ) - 9)
                let q25 := f_X5_disk (f_L_low p2 3 σ) (f_L_low (p2 >>> ((2 : Int32) &&& 31)) 8 σ) v22 σ
                o_ite (q25.1 ≤ 90) (
                  ((0 : Int32), q25.2)) (
                  o_ite (110 ≤ q25.1) (
                    (0, q25.2)) (
                    let q28 := f_X5_disk (f_L_low p2 3 σ) (f_L_low (p2 >>> ((2 : Int32) &&& 31)) 8 q25.2) v22 q25.2
                    o_ite (q28.1 = (v22 + 100)) (
                      (1, q28.2)) (
                      (0, q28.2))))) (PI (N + 1)) := by
    obtain ⟨a1, t, t1, t2⟩ := l_lowN p2 (d := 3) (σ := σ) (by omega) (by omega)
    obtain ⟨a2, e, z1, z2⟩ := l_lowN (p2 >>> ((6 : Int32) &&& 31)) (d := 19) (σ := σ) (by omega) (by omega)
    have a3 := fun s : Sg => (l_lowN (p2 >>> ((2 : Int32) &&& 31)) (d := 8) (σ := s) (by omega) (by omega)).1
    obtain ⟨-, s, s1, s2⟩ := l_lowN (p2 >>> ((2 : Int32) &&& 31)) (d := 8) (σ := σ) (by omega) (by omega)
    have t2' : f_L_low p2 3 σ = zI t := t2 σ
    have z2' : f_L_low (p2 >>> ((6 : Int32) &&& 31)) 19 σ - 9 = zI ((e : Int) - 9) := (congrArg (fun x => x - 9) (z2 σ)).trans (z_sub e 9)
    have s2' : ∀ u : Sg, f_L_low (p2 >>> ((2 : Int32) &&& 31)) 8 u = zI s := s2
    obtain ⟨k1, τ, k2, k3⟩ := k_disk h (t := t) (s := s) (P := (e : Int) - 9) (by omega) (by omega) (by omega)
    obtain ⟨j1, u, j2, j3⟩ := k_disk k3 (t := t) (s := s) (P := (e : Int) - 9) (by omega) (by omega) (by omega)
    have b := vE (11 + (8 * t + s)) (by omega) (by omega)
    have eq : vu v (11 + (8 * t + s)) ((e : Int) - 9) (11 + (8 * t + s)) = (e : Int) - 9 := if_pos rfl
    rw [eq] at j2
    dsimp only
    rw [t2', z2', s2', k2]
    dsimp only
    rw [s2', j2]
    refine g_s a1 (g_s a2 (g_s (a3 σ) (g_s k1 (g_n (n_le (b := 90) (by omega) (by unfold zB; omega) (by unfold zB; omega)) (g_n (n_le (a := 110) (by omega) (by unfold zB; omega) (by unfold zB; omega)) (g_s (a3 τ) (g_s j1 (g_t ?_ (fin9 j3)))))))))
    exact (z_add ((e : Int) - 9) 100).symm
  unfold ok_L_acts f_L_acts
  refine g_s lo14.1 (g_b (fun _ => tu) (fun _ => g_b (fun _ => tu) (fun _ => g_b (fun _ => tu) (fun _ => g_b (fun _ => ?_) (fun _ => g_b (fun _ => ?_) (fun _ => g_b (fun _ => ?_) (fun _ => g_b (fun _ => sd) (fun _ => g_b (fun _ => sd) (fun _ => g_b (fun _ => ?_) (fun _ => g_b (fun _ => ?_) (fun _ => g_b (fun _ => ?_) (fun _ => g_b (fun _ => pi_pair (l_learned h) (N + 1) (by omega)) (fun _ => g_b (fun _ => ?_) (fun _ => pi_pair (l_sampled h hN0 hN) (N + 1) (by omega)))))))))))))))
  · obtain ⟨a, k, k1, k2⟩ := l_lowN p2 (d := 2) (σ := σ) (by omega) (by omega)
    have k2' : f_L_low p2 2 σ = zI k := k2 σ
    obtain ⟨b, τ, c, d⟩ := k_power h (P := (k : Int)) (by omega)
    rw [k2']
    refine g_s a (g_s b ?_)
    rw [c]
    exact g_n (n_lt (a := v 1) (b := 0) (by omega) (by unfold zB; omega) (by unfold zB; omega)) (fin9 d)
  · obtain ⟨a, k, k1, k2⟩ := l_lowN p2 (d := 9) (σ := σ) (by omega) (by omega)
    have k2' : f_L_low p2 9 σ = zI k := k2 σ
    have e : 1 + zI (k : Int) = zI (1 + (k : Int)) := z_add 1 k
    rw [k2', e]
    refine g_s a ?_
    by_cases q : v 4 + (1 + (k : Int)) ≤ 99
    · obtain ⟨b, τ, c, d⟩ := k_brown h (P := 1 + (k : Int)) (by omega) q
      refine g_s b ?_
      rw [c]
      have ne : ¬ zI (v 4 + (1 + (k : Int))) = -1 := by
        rw [z_m1]
        exact n_eq (by omega) (by unfold zB; omega) (by unfold zB; omega)
      exact g_n ne (fin9 d)
    · obtain ⟨b, c⟩ := k_brownL h (P := 1 + (k : Int)) (by omega) q
      refine g_s b ?_
      rw [c]
      exact g_n (show ¬ (-3 : Int32) = -1 by decide) (fin9 h)
  · obtain ⟨a, k, k1, k2⟩ := l_lowN p2 (d := 40) (σ := σ) (by omega) (by omega)
    have k2' : f_L_low p2 40 σ = zI k := k2 σ
    obtain ⟨b, τ, c, d⟩ := k_charge h (P := (k : Int)) (by omega)
    rw [k2']
    refine g_s a (g_s b ?_)
    rw [c]
    exact g_n (n_lt (a := v 3) (b := 0) (by omega) (by unfold zB; omega) (by unfold zB; omega)) (fin9 d)
  · obtain ⟨a1, t, t1, t2⟩ := l_lowN p2 (d := 3) (σ := σ) (by omega) (by omega)
    obtain ⟨a2, e, z1, z2⟩ := l_lowN (p2 >>> ((2 : Int32) &&& 31)) (d := 7) (σ := σ) (by omega) (by omega)
    have t2' : f_L_low p2 3 σ = zI t := t2 σ
    have z2' : f_L_low (p2 >>> ((2 : Int32) &&& 31)) 7 σ - 3 = zI ((e : Int) - 3) := (congrArg (fun x => x - 3) (z2 σ)).trans (z_sub e 3)
    obtain ⟨k1, τ, k2, k3⟩ := k_noise h (t := t) (P := (e : Int) - 3) (by omega) (by omega)
    have b := vE (35 + t) (by omega) (by omega)
    rw [t2', z2']
    refine g_s a1 (g_s a2 (g_s k1 ?_))
    rw [k2]
    exact g_n (n_le (a := v (35 + t) + 100) (b := 90) (by omega) (by unfold zB; omega) (by unfold zB; omega)) (fin9 k3)
  · obtain ⟨a1, t, t1, t2⟩ := l_lowN p2 (d := 4) (σ := σ) (by omega) (by omega)
    have t2' : f_L_low p2 4 σ = zI t := t2 σ
    obtain ⟨b0, k0, c0, d0⟩ := l_lowN (p2 >>> ((2 : Int32) &&& 31)) (d := 41) (σ := σ) (by omega) (by omega)
    obtain ⟨b1, k1, c1, d1⟩ := l_lowN (p2 >>> ((2 : Int32) &&& 31)) (d := 33) (σ := σ) (by omega) (by omega)
    obtain ⟨b2, k2, c2, d2⟩ := l_lowN (p2 >>> ((2 : Int32) &&& 31)) (d := 4080) (σ := σ) (by omega) (by omega)
    obtain ⟨b3, k3, c3, d3⟩ := l_lowN (p2 >>> ((2 : Int32) &&& 31)) (d := 9) (σ := σ) (by omega) (by omega)
    have d0' : f_L_low (p2 >>> ((2 : Int32) &&& 31)) 41 σ = zI k0 := d0 σ
    have d1' : f_L_low (p2 >>> ((2 : Int32) &&& 31)) 33 σ = zI k1 := d1 σ
    have d2' : 1 + f_L_low (p2 >>> ((2 : Int32) &&& 31)) 4080 σ = zI (1 + (k2 : Int)) := (congrArg (fun x => 1 + x) (d2 σ)).trans (z_add 1 k2)
    have d3' : f_L_low (p2 >>> ((2 : Int32) &&& 31)) 9 σ - 4 = zI ((k3 : Int) - 4) := (congrArg (fun x => x - 4) (d3 σ)).trans (z_sub k3 4)
    rw [t2', d0', d1', d2', d3']
    refine g_s a1 ?_
    by_cases q0 : t = 0
    · exact g_t (by rw [q0]; rfl) (g_s b0 (l_313 h (by omega) (by rw [q0]; unfold sLo sHi; rw [if_neg (by omega), if_neg (by omega), if_pos rfl]; omega)))
    · refine g_n (n_eq (b := 0) (by omega) (by unfold zB; omega) (by unfold zB; omega)) ?_
      by_cases q1 : t = 1
      · exact g_t (by rw [q1]; rfl) (g_s b1 (l_313 h (by omega) (by rw [q1]; unfold sLo sHi; rw [if_neg (by omega), if_neg (by omega), if_neg (by omega), if_pos rfl]; omega)))
      · refine g_n (n_eq (b := 1) (by omega) (by unfold zB; omega) (by unfold zB; omega)) ?_
        by_cases q2 : t = 2
        · exact g_t (by rw [q2]; rfl) (g_s b2 (l_313 h (by omega) (by rw [q2]; unfold sLo sHi; rw [if_neg (by omega), if_pos rfl, if_neg (by omega), if_neg (by omega), if_pos rfl]; omega)))
        · have q3 : t = 3 := by omega
          exact g_n (n_eq (b := 2) (by omega) (by unfold zB; omega) (by unfold zB; omega)) (g_s b3 (l_313 h (by omega) (by rw [q3]; unfold sLo sHi; rw [if_pos rfl, if_neg (by omega), if_neg (by omega), if_neg (by omega)]; omega)))
  · obtain ⟨a1, t, t1, t2⟩ := l_lowN p2 (d := 3) (σ := σ) (by omega) (by omega)
    obtain ⟨a2, s, s1, s2⟩ := l_lowN (p2 >>> ((2 : Int32) &&& 31)) (d := 8) (σ := σ) (by omega) (by omega)
    obtain ⟨a3, e, z1, z2⟩ := l_lowN (p2 >>> ((5 : Int32) &&& 31)) (d := 41) (σ := σ) (by omega) (by omega)
    have t2' : f_L_low p2 3 σ = zI t := t2 σ
    have s2' : f_L_low (p2 >>> ((2 : Int32) &&& 31)) 8 σ = zI s := s2 σ
    have z2' : f_L_low (p2 >>> ((5 : Int32) &&& 31)) 41 σ - 20 = zI ((e : Int) - 20) := (congrArg (fun x => x - 20) (z2 σ)).trans (z_sub e 20)
    obtain ⟨k1, τ, k2, k3⟩ := k_correct h (t := t) (s := s) (P := (e : Int) - 20) (by omega) (by omega) (by omega)
    have b := vC (38 + (8 * t + s)) (by omega) (by omega)
    rw [t2', s2', z2']
    refine g_s a1 (g_s a2 (g_s a3 (g_s k1 ?_)))
    rw [k2]
    exact g_n (n_le (a := v (38 + (8 * t + s)) + 100) (b := 79) (by omega) (by unfold zB; omega) (by unfold zB; omega)) (fin9 k3)
  · have c6 := ct6 h
    rw [c6.2]
    refine g_s c6.1 ?_
    by_cases q : v 5 = -1
    · rw [if_pos q]
      exact g_t rfl (l_416 h hN0 (y := 0) (by rw [if_pos q]))
    · rw [if_neg q]
      exact g_n (n_eq (b := -4) (by omega) (by unfold zB; omega) (by unfold zB; omega)) (l_416 h hN0 (y := 1) (by rw [if_neg q]))
end K9
