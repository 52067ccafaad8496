set_option linter.all false
/-! the sum of all numbers, and what is refused -/
theorem cR_n {v : Nat → Int} {n m : Nat} {P : Int} (h : P ≠ 10) : cR v n 0 P = cR v m 0 P := by
  unfold cR
  simp only [if_neg h]
noncomputable def u77 (v : Nat → Int) : Nat → Nat → Int64 → Int64
  | 0, _, l => l
  | m + 1, i, l => u77 v m (i + 1) (if i = 3 then ((((31 : Int64) * l) + (Int32.toInt64 (zI (cR v 0 0 (20 + (i : Int)))))) + (Int32.toInt64 (zI (pc v 0 8)))) else ((((31 : Int64) * l) + (Int32.toInt64 (zI (cR v 0 0 (20 + (i : Int)))))) + ((4 : Int64) * (Int32.toInt64 (zI (aRd v i (aAng v)))))))
noncomputable def u43 (v : Nat → Int) : Nat → Nat → Int64 → Int64
  | 0, _, l => u77 v 4 0 l
  | m + 1, i, l => u43 v m (i + 1) (((31 : Int64) * l) + (Int32.toInt64 (zI (v (38 + i) + 100))))
noncomputable def u6 (v : Nat → Int) : Nat → Nat → Int64 → Int64
  | 0, _, l => u43 v 24 0 l
  | m + 1, i, l => u6 v m (i + 1) (((31 : Int64) * l) + (Int32.toInt64 (if i = 10 then 0 else zI (cR v 0 0 i))))
noncomputable def uS (v : Nat → Int) : Int64 := u6 v 12 0 17
theorem z_8 {i : Nat} (h : i < 24) : zI (i : Int) / 8 = zI ((i / 8 : Nat) : Int) ∧ zI (i : Int) - zI (i : Int) / 8 * 8 = zI ((i % 8 : Nat) : Int) := by
  have e : zI (i : Int) / 8 = zI ((i / 8 : Nat) : Int) := by
    have := z_divn (a := (i : Int)) (b := 8) (by omega) (by omega) (by omega) (by omega)
    rw [show (8 : Int32) = zI 8 from rfl, this]
    congr 1
  refine ⟨e, ?_⟩
  rw [e, show (8 : Int32) = zI 8 from rfl, z_mul, z_sub]
  congr 1
  omega
section K4
variable {N : Int} {σ : Sg} {v : Nat → Int} {n : Nat} {hs : Nat → Nat → Int}
theorem s77 (h : IS N σ v n hs) : ∀ (k m i : Nat) (l : Int64), i + m = 4 → m < k → G2 (ok_L_sum_77 k l (zI i) σ) (f_L_sum_77 k l (zI i) σ) (fun x => x = u77 v m i l) := by
  intro k
  induction k with
  | zero => intro m i l h1 h2; omega
  | succ k ih =>
    intro m i l h1 h2
    unfold ok_L_sum_77 f_L_sum_77
    match m with
    | 0 => exact g_t (y_le (a := 4) (by omega) (by unfold zB; omega) (by unfold zB; omega)) (g_e rfl)
    | m + 1 =>
      have e1 : 20 + zI (i : Int) = zI (20 + (i : Int)) := z_add 20 i
      have c := k_count h (P := 20 + (i : Int)) (by unfold zB; omega)
      rw [e1, c.2, cR_n (m := 0) (by omega), z_s]
      refine g_n (n_le (a := 4) (by omega) (by unfold zB; omega) (by unfold zB; omega)) (g_s c.1 ?_)
      by_cases q : i = 3
      · refine g_t (y_le (a := 3) (by omega) (by unfold zB; omega) (by unfold zB; omega)) (g_s (k_poor h).1 ?_)
        rw [(k_poor h).2]
        have r := ih m (i + 1) ((((31 : Int64) * l) + (Int32.toInt64 (zI (cR v 0 0 (20 + (i : Int)))))) + (Int32.toInt64 (zI (pc v 0 8)))) (by omega) (by omega)
        unfold u77
        rw [if_pos q]
        exact r
      · have rd := k_read h (t := i) (by omega)
        refine g_n (n_le (a := 3) (by omega) (by unfold zB; omega) (by unfold zB; omega)) (g_s rd.1 ?_)
        rw [rd.2]
        have r := ih m (i + 1) ((((31 : Int64) * l) + (Int32.toInt64 (zI (cR v 0 0 (20 + (i : Int)))))) + ((4 : Int64) * (Int32.toInt64 (zI (aRd v i (aAng v)))))) (by omega) (by omega)
        unfold u77
        rw [if_neg q]
        exact r
theorem s43 (h : IS N σ v n hs) : ∀ (k m i : Nat) (l : Int64), i + m = 24 → m < k → G2 (ok_L_sum_43 k l (zI i) σ) (f_L_sum_43 k l (zI i) σ) (fun x => x = u43 v m i l) := by
  intro k
  induction k with
  | zero => intro m i l h1 h2; omega
  | succ k ih =>
    intro m i l h1 h2
    unfold ok_L_sum_43 f_L_sum_43
    match m with
    | 0 => exact g_t (y_le (a := 24) (by omega) (by unfold zB; omega) (by unfold zB; omega)) (s77 h oF 4 0 l (by omega) (by rw [oF_eq]; omega))
    | m + 1 =>
      have e8 := z_8 (i := i) (by omega)
      have c := k_corr h (t := i / 8) (s := i % 8) (by omega) (by omega)
      rw [show 8 * (i / 8) + i % 8 = i by omega] at c
      rw [e8.2, e8.1, c.2, z_s]
      refine g_n (n_le (a := 24) (by omega) (by unfold zB; omega) (by unfold zB; omega)) (g_s c.1 ?_)
      exact ih m (i + 1) _ (by omega) (by omega)
theorem s6 (h : IS N σ v n hs) : ∀ (k m i : Nat) (l : Int64), i + m = 12 → m < k → G2 (ok_L_sum_6 k l (zI i) σ) (f_L_sum_6 k l (zI i) σ) (fun x => x = u6 v m i l) := by
  intro k
  induction k with
  | zero => intro m i l h1 h2; omega
  | succ k ih =>
    intro m i l h1 h2
    unfold ok_L_sum_6 f_L_sum_6 ok_L_sum_32 f_L_sum_32
    match m with
    | 0 => exact g_t (y_le (a := 12) (by omega) (by unfold zB; omega) (by unfold zB; omega)) (s43 h oF 24 0 l (by omega) (by rw [oF_eq]; omega))
    | m + 1 =>
      have c := k_count h (P := (i : Int)) (by unfold zB; omega)
      rw [z_s]
      refine g_n (n_le (a := 12) (by omega) (by unfold zB; omega) (by unfold zB; omega)) ?_
      by_cases q : i = 10
      · refine g_t ((zq10 (by unfold zB; omega)).mpr (by omega)) ?_
        have r := ih m (i + 1) (((31 : Int64) * l) + (Int32.toInt64 0)) (by omega) (by omega)
        unfold u6
        rw [if_pos q]
        exact r
      · refine g_n (fun g => q (by have := (zq10 (by unfold zB; omega)).mp g; omega)) (g_s c.1 ?_)
        rw [c.2, cR_n (m := 0) (by omega)]
        have r := ih m (i + 1) (((31 : Int64) * l) + (Int32.toInt64 (zI (cR v 0 0 i)))) (by omega) (by omega)
        unfold u6
        rw [if_neg q]
        exact r
theorem q_sum (h : IS N σ v n hs) : ok_L_sum σ ∧ f_L_sum σ = uS v := s6 h oF 12 0 17 (by omega) (by rw [oF_eq]; omega)
theorem lg_self (x : Int64) : lg_cmp x x = 0 := by
  unfold lg_cmp
  simp
theorem l_ref275 (h : IS N σ v n hs) : G2 (ok_L_refused_275 (uS v) (zI n) 1 σ) (f_L_refused_275 (uS v) (zI n) 1 σ) (fun q => q = (1, σ)) := by
  have c := k_count h (P := 10) (by unfold zB; omega)
  have c' : f_X5_count 10 σ = zI n := c.2
  unfold ok_L_refused_275 f_L_refused_275
  rw [(q_sum h).2, c']
  exact g_n (by decide) (g_s (q_sum h).1 (g_t (lg_self _) (g_s c.1 (g_t rfl (g_e rfl)))))
theorem l_ref249 (h : IS N σ v n hs) : G2 (ok_L_refused_249 (uS v) (zI n) σ) (f_L_refused_249 (uS v) (zI n) σ) (fun q => q = (1, σ)) := by
  have v4 := h.2.1.2.2.2.2.1
  have c := k_count h (P := 5) (by unfold zB; omega)
  have c' : f_X5_count 5 σ = zI (v 4) := c.2
  unfold ok_L_refused_249 f_L_refused_249
  rw [c']
  refine g_s c.1 ?_
  by_cases q : v 4 < 91
  · exact g_t (y_lt (b := 91) q (by unfold zB; omega) (by unfold zB; omega)) (l_ref275 h)
  · have b := k_brownL h (P := 9) (by omega) (by omega)
    have b' : f_X5_brownout 9 σ = (-3, σ) := b.2
    refine g_n (n_lt (b := 91) (by omega) (by unfold zB; omega) (by unfold zB; omega)) (g_s b.1 ?_)
    rw [b']
    exact g_t rfl (l_ref275 h)
theorem l_ref222 (h : IS N σ v n hs) : G2 (ok_L_refused_222 (uS v) (zI n) σ) (f_L_refused_222 (uS v) (zI n) σ) (fun q => q = (1, σ)) := by
  have v1 := h.2.1.2.1
  have c := k_count h (P := 3) (by unfold zB; omega)
  have c' : f_X5_count 3 σ = zI (v 1) := c.2
  unfold ok_L_refused_222 f_L_refused_222
  rw [c']
  refine g_s c.1 ?_
  by_cases q : v 1 = 1
  · exact g_t ((zq1 (by unfold zB; omega)).mpr q) (l_ref249 h)
  · have b := k_sample0 h (by omega)
    have d := k_reason0 h (by omega)
    refine g_n (fun g => q ((zq1 (by unfold zB; omega)).mp g)) (g_s b.1 ?_)
    rw [b.2]
    refine g_t rfl (g_s d.1 ?_)
    dsimp only
    rw [d.2]
    exact g_t rfl (l_ref249 h)
theorem l_ref187 (h : IS N σ v n hs) : G2 (ok_L_refused_187 (uS v) (zI n) 1 σ) (f_L_refused_187 (uS v) (zI n) 1 σ) (fun q => q = (1, σ)) := by
  have v0 := h.2.1.1
  have c := k_count h (P := 0) (by unfold zB; omega)
  have c' : f_X5_count 0 σ = zI (v 0) := c.2
  unfold ok_L_refused_187 f_L_refused_187
  rw [c']
  refine g_n (by decide) (g_s c.1 ?_)
  by_cases q : 9999 ≤ v 0
  · exact g_t (y_le (a := 9999) q (by unfold zB; omega) (by unfold zB; omega)) (l_ref222 h)
  · have b := k_turnN h (P := -(v 0) - 1) (by omega) (by omega)
    have e : (-(zI (v 0))) - 1 = zI (-(v 0) - 1) := by rw [z_neg]; exact z_sub _ 1
    rw [e]
    refine g_n (n_le (a := 9999) (by omega) (by unfold zB; omega) (by unfold zB; omega)) (g_s c.1 (g_s b.1 ?_))
    rw [b.2]
    exact g_t rfl (l_ref222 h)
set_option maxRecDepth 20000 in
theorem l_refused (h : IS N σ v n hs) : ok_L_refused σ ∧ f_L_refused σ = (1, σ) := by
  show G2 (ok_L_refused σ) (f_L_refused σ) (fun q => q = (1, σ))
  have c := k_count h (P := 10) (by unfold zB; omega)
  have c' : f_X5_count 10 σ = zI n := c.2
  have e1 := i_turn (P := 10000) (σ := σ) (by decide)
  have e2 := i_turn (P := -10000) (σ := σ) (by decide)
  have e3 := i_power (P := -1) (σ := σ) (by decide)
  have e4 := i_brown (P := 10) (σ := σ) (by decide)
  have e5 := i_charge (P := -1) (σ := σ) (by decide)
  have e6 := i_disk (σ := σ)
  have e7 := i_noise (σ := σ)
  have e8 := i_set1 (σ := σ)
  have e9 := i_set2 (σ := σ)
  have e10 := i_corr (σ := σ)
  have e11 := i_look (σ := σ)
  have e12 := i_surv (σ := σ)
  have e13 := i_found (σ := σ)
  have e14 := i_two (σ := σ)
  have e15 := i_type (σ := σ)
  have e16 := i_fault (σ := σ)
  unfold ok_L_refused f_L_refused
  simp only [e1.2, e2.2, e3.2, e4.2, e5.2, e6.2, e7.2, e8.2, e9.2, e10.2, e11.2, e12.2, e13.2, e14.2, e15.2, e16.2, c', (q_sum h).2]
  exact g_s (q_sum h).1 (g_s c.1 (g_s e1.1 (g_t True.intro (g_s e2.1 (g_t True.intro (g_s e3.1 (g_t True.intro (g_s e4.1 (g_t True.intro (g_s e5.1 (g_t True.intro (g_s e6.1 (g_t True.intro (g_s e7.1 (g_t True.intro (g_s e8.1 (g_t True.intro (g_s e9.1 (g_t True.intro (g_s e10.1 (g_t True.intro (g_s e11.1 (g_t True.intro (g_s e12.1 (g_t True.intro (g_s e13.1 (g_t True.intro (g_s e14.1 (g_t True.intro (g_s e15.1 (g_t True.intro (g_s e16.1 (g_t True.intro (l_ref187 h))))))))))))))))))))))))))))))))))
end K4
