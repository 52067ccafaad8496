set_option linter.all false
/-! a turn and back -/
def PI (N : Int) (q : Int32 × Sg) : Prop := ∃ τ v n hs, q = (1, τ) ∧ IS N τ v n hs
theorem cx_on {s : Int} {v : Nat → Int} (h : v 1 ≠ 0) : cx s v = vu v 2 ((v 2 + s) % 64) := by
  unfold cx
  rw [if_neg h]
theorem cxs_on {s : Int} : ∀ (m : Nat) (v : Nat → Int), v 1 ≠ 0 → 0 ≤ v 2 → v 2 < 64 → cxs s m v 2 = (v 2 + s * m) % 64 ∧ cxs s m v 3 = v 3 ∧ cxs s m v 1 = v 1
  | 0, v, h, h0, h1 => by
    refine ⟨?_, rfl, rfl⟩
    show v 2 = _
    rw [show s * ((0 : Nat) : Int) = 0 from Int.mul_zero s]
    omega
  | m + 1, v, h, h0, h1 => by
    have r := cxs_on (s := s) m (cx s v) (by rw [cx_on h]; exact h) (by rw [cx_on h]; show 0 ≤ (v 2 + s) % 64; omega) (by rw [cx_on h]; show (v 2 + s) % 64 < 64; omega)
    rw [cx_on h] at r
    have r2 : vu v 2 ((v 2 + s) % 64) 2 = (v 2 + s) % 64 := rfl
    have r3 : vu v 2 ((v 2 + s) % 64) 3 = v 3 := rfl
    have r1 : vu v 2 ((v 2 + s) % 64) 1 = v 1 := rfl
    rw [r1, r2, r3] at r
    have e : cxs s (m + 1) v = cxs s m (vu v 2 ((v 2 + s) % 64)) := by
      show cxs s m (cx s v) = _
      rw [cx_on h]
    rw [e]
    refine ⟨?_, r.2⟩
    rw [r.1]
    have ez : s * ((m + 1 : Nat) : Int) = s * (m : Int) + s := by
      rw [show ((m + 1 : Nat) : Int) = (m : Int) + 1 by omega, Int.mul_add, Int.mul_one]
    rw [ez]
    generalize s * (m : Int) = z
    omega
theorem cx_off {s : Int} {v : Nat → Int} (h : v 1 = 0) : cx s v 3 = (if v 3 = 0 then 0 else v 3 - 1) ∧ cx s v 1 = v 1 := by
  unfold cx
  rw [if_pos h]
  by_cases q : v 3 = 0
  · rw [if_pos q, if_pos q]
    exact ⟨q, rfl⟩
  · rw [if_neg q, if_neg q]
    split
    · exact ⟨rfl, rfl⟩
    · exact ⟨rfl, rfl⟩
theorem cxs_off {s : Int} : ∀ (m : Nat) (v : Nat → Int), v 1 = 0 → 0 ≤ v 3 → cxs s m v 3 = (if (m : Int) ≤ v 3 then v 3 - m else 0) ∧ cxs s m v 1 = v 1
  | 0, v, h, h0 => by
    refine ⟨?_, rfl⟩
    show v 3 = _
    rw [if_pos (by omega)]
    omega
  | m + 1, v, h, h0 => by
    have c := cx_off (s := s) h
    have r := cxs_off (s := s) m (cx s v) (by rw [c.2]; exact h) (by rw [c.1]; split <;> omega)
    rw [c.1, c.2] at r
    refine ⟨?_, r.2⟩
    show cxs s m (cx s v) 3 = _
    rw [r.1]
    by_cases q : v 3 = 0
    · rw [if_pos q]
      split <;> split <;> omega
    · rw [if_neg q]
      split <;> split <;> omega
theorem sgn_mul (D : Int) : (if 0 ≤ D then (1 : Int) else -1) * ((if 0 ≤ D then D else 0 - D).toNat : Int) = D := by
  split
  · rw [Int.one_mul]; omega
  · rw [Int.neg_mul, Int.one_mul]; omega
theorem tV_on {v : Nat → Int} {Q : Int} (h : v 1 ≠ 0) (h0 : 0 ≤ v 2) (h1 : v 2 < 64) : tV v Q 2 = (v 2 + (Q / 1020 - v 0 / 1020)) % 64 ∧ tV v Q 3 = v 3 ∧ tV v Q 1 = v 1 := by
  have r := cxs_on (s := if 0 ≤ Q / 1020 - v 0 / 1020 then 1 else -1) (if 0 ≤ Q / 1020 - v 0 / 1020 then Q / 1020 - v 0 / 1020 else 0 - (Q / 1020 - v 0 / 1020)).toNat v h h0 h1
  rw [sgn_mul] at r
  exact ⟨r.1, r.2.1, r.2.2⟩
theorem tV_off {v : Nat → Int} {Q : Int} (h : v 1 = 0) (h0 : 0 ≤ v 3) : tV v Q 3 = (if (if 0 ≤ Q / 1020 - v 0 / 1020 then Q / 1020 - v 0 / 1020 else 0 - (Q / 1020 - v 0 / 1020)) ≤ v 3 then v 3 - (if 0 ≤ Q / 1020 - v 0 / 1020 then Q / 1020 - v 0 / 1020 else 0 - (Q / 1020 - v 0 / 1020)) else 0) ∧ tV v Q 1 = v 1 := by
  have r := cxs_off (s := if 0 ≤ Q / 1020 - v 0 / 1020 then 1 else -1) (if 0 ≤ Q / 1020 - v 0 / 1020 then Q / 1020 - v 0 / 1020 else 0 - (Q / 1020 - v 0 / 1020)).toNat v h h0
  have e : ((if 0 ≤ Q / 1020 - v 0 / 1020 then Q / 1020 - v 0 / 1020 else 0 - (Q / 1020 - v 0 / 1020)).toNat : Int) = (if 0 ≤ Q / 1020 - v 0 / 1020 then Q / 1020 - v 0 / 1020 else 0 - (Q / 1020 - v 0 / 1020)) := by split <;> omega
  rw [e] at r
  exact ⟨r.1, r.2⟩
theorem tV_0 {v : Nat → Int} {Q : Int} : tV v Q 0 = Q := rfl
theorem ct3 {N : Int} {σ : Sg} {v : Nat → Int} {n : Nat} {hs : Nat → Nat → Int} (h : IS N σ v n hs) : ok_X5_count 3 σ ∧ f_X5_count 3 σ = zI (v 1) := k_count h (P := 3) (by unfold zB; omega)
theorem ct0 {N : Int} {σ : Sg} {v : Nat → Int} {n : Nat} {hs : Nat → Nat → Int} (h : IS N σ v n hs) : ok_X5_count 0 σ ∧ f_X5_count 0 σ = zI (v 0) := k_count h (P := 0) (by unfold zB; omega)
theorem ct2 {N : Int} {σ : Sg} {v : Nat → Int} {n : Nat} {hs : Nat → Nat → Int} (h : IS N σ v n hs) : ok_X5_count 2 σ ∧ f_X5_count 2 σ = zI (v 2) := k_count h (P := 2) (by unfold zB; omega)
theorem ct4 {N : Int} {σ : Sg} {v : Nat → Int} {n : Nat} {hs : Nat → Nat → Int} (h : IS N σ v n hs) : ok_X5_count 4 σ ∧ f_X5_count 4 σ = zI (v 3) := k_count h (P := 4) (by unfold zB; omega)
theorem ct6 {N : Int} {σ : Sg} {v : Nat → Int} {n : Nat} {hs : Nat → Nat → Int} (h : IS N σ v n hs) : ok_X5_count 6 σ ∧ f_X5_count 6 σ = zI (if v 5 = -1 then -4 else v 5) := k_count h (P := 6) (by unfold zB; omega)
theorem ct7 {N : Int} {σ : Sg} {v : Nat → Int} {n : Nat} {hs : Nat → Nat → Int} (h : IS N σ v n hs) : ok_X5_count 7 σ ∧ f_X5_count 7 σ = zI (v 6) := k_count h (P := 7) (by unfold zB; omega)
section K6
variable {N : Int} {σ : Sg} {v : Nat → Int} {n : Nat} {hs : Nat → Nat → Int}
theorem l_161 {w : Nat → Int} {p : Int32} {P : Int} (h : IS N σ v n hs) (hw : VS N w) (hP : -9999 ≤ P ∧ P ≤ 9999) (e0 : v 0 = w 0 + P) (hon : w 1 ≠ 0 → v 2 = (w 2 + (v 0 / 1020 - w 0 / 1020)) % 64) (e1 : v 1 = w 1) : G2 (ok_L_isTurned_161 p (zI P) (zI (w 0)) (zI (w 2)) σ) (f_L_isTurned_161 p (zI P) (zI (w 0)) (zI (w 2)) σ) (PI N) := by
  have w0 := hw.1
  have w2 := hw.2.2.1
  have v0 := h.2.1.1
  have v1 := h.2.1.2.1
  have v2 := h.2.1.2.2.1
  obtain ⟨lo1, k, lk0, lk1, lo2⟩ := l_low (p >>> ((7 : Int32) &&& 31)) (d := 2) (σ := σ) (by omega) (by omega)
  obtain ⟨t1, τ, t2, t3⟩ := k_turn h (P := -P) (by omega) (by omega)
  have c3 := ct3 t3
  have c2 := ct2 t3
  have lo2' : f_L_low (p >>> ((7 : Int32) &&& 31)) 2 σ = zI k := lo2 σ
  unfold ok_L_isTurned_161 f_L_isTurned_161 ok_L_isTurned_166 f_L_isTurned_166
  rw [lo2']
  refine g_n (by decide) (g_s lo1 ?_)
  refine g_b (fun _ => ?_) (fun _ => g_s rfl (g_e ⟨σ, v, n, hs, rfl, h⟩))
  rw [z_neg]
  refine g_s t1 ?_
  rw [t2]
  dsimp only
  rw [show v 0 + -P = w 0 by omega] at t3 c3 c2 ⊢
  refine g_t rfl (g_s c3.1 ?_)
  rw [c3.2, c2.2]
  unfold ok_L_isTurned_212 f_L_isTurned_212
  by_cases q : v 1 = 0
  · have e : tV v (w 0) 1 = 0 := by rw [(tV_off q h.2.1.2.2.2.1.1).2, q]
    rw [e]
    exact g_t rfl (g_e ⟨τ, _, _, _, rfl, t3⟩)
  · have r := tV_on (Q := w 0) q v2.1 v2.2
    have e2 : tV v (w 0) 2 = w 2 := by
      rw [r.1, hon (by rw [← e1]; exact q)]
      omega
    rw [r.2.2, e2]
    exact g_n (n_eq (b := 0) q (by unfold zB; omega) (by unfold zB; omega)) (g_s c2.1 (g_t rfl (g_e ⟨τ, _, _, _, rfl, t3⟩)))
theorem l_turned (h : IS N σ v n hs) (p : Int32) : G2 (ok_L_isTurned p σ) (f_L_isTurned p σ) (PI N) := by
  have hv := h.2.1
  have v0 := hv.1
  have v1 := hv.2.1
  have v2 := hv.2.2.1
  have v3 := hv.2.2.2.1
  obtain ⟨lo1, k, lk0, lk1, lo2⟩ := l_low p (d := 19999) (σ := σ) (by omega) (by omega)
  have lo2' : f_L_low p 19999 σ = zI k := lo2 σ
  have eP : zI k - 9999 = zI (k - 9999) := z_sub k 9999
  obtain ⟨P, hP⟩ : ∃ P : Int, P = k - 9999 := ⟨_, rfl⟩
  have bP : -9999 ≤ P ∧ P ≤ 9999 := by omega
  unfold ok_L_isTurned f_L_isTurned
  rw [lo2', (ct0 h).2, (ct2 h).2, (ct4 h).2, eP, ← hP, z_add]
  refine g_s lo1 (g_s (ct0 h).1 (g_s (ct2 h).1 (g_s (ct4 h).1 ?_)))
  by_cases q : 0 ≤ v 0 + P ∧ v 0 + P ≤ 65279
  · obtain ⟨t1, τ, t2, t3⟩ := k_turn h bP q
    refine g_s t1 ?_
    rw [t2]
    dsimp only
    rw [z_1020 ⟨by omega, by omega⟩, z_1020 ⟨by omega, by omega⟩, z_sub, (ct3 t3).2, (ct4 t3).2, (ct2 t3).2]
    refine g_t (y_le (a := 0) (by omega) (by unfold zB; omega) (by unfold zB; omega)) (g_t rfl (g_s (ct3 t3).1 ?_))
    by_cases q1 : v 1 = 0
    · have r := tV_off (Q := v 0 + P) q1 v3.1
      rw [r.2, r.1]
      have fin := l_161 (p := p) t3 hv bP rfl (fun c => absurd q1 c) r.2
      refine g_t (by rw [q1]; rfl) (g_s (ct4 t3).1 ?_)
      by_cases d : 0 ≤ (v 0 + P) / 1020 - v 0 / 1020
      · refine g_t (y_le (a := 0) d (by unfold zB; omega) (by unfold zB; omega)) ?_
        have le := l_least (σ := τ) (a := v 3) (b := (v 0 + P) / 1020 - v 0 / 1020) (by unfold zB; omega) (by unfold zB; omega)
        unfold ok_L_isTurned_124 f_L_isTurned_124
        rw [le.2, z_sub]
        refine g_s le.1 (g_t ?_ fin)
        rw [if_pos d]
        congr 1
        split <;> omega
      · refine g_n (n_le (a := 0) (by omega) (by unfold zB; omega) (by unfold zB; omega)) ?_
        rw [z_neg]
        have le := l_least (σ := τ) (a := v 3) (b := -((v 0 + P) / 1020 - v 0 / 1020)) (by unfold zB; omega) (by unfold zB; omega)
        unfold ok_L_isTurned_124 f_L_isTurned_124
        rw [le.2, z_sub]
        refine g_s le.1 (g_t ?_ fin)
        rw [if_neg d]
        congr 1
        split <;> split <;> omega
    · have r := tV_on (Q := v 0 + P) q1 v2.1 v2.2
      have fin := l_161 (p := p) t3 hv bP rfl (fun c => r.1) r.2.2
      have re := l_rest (σ := τ) (a := v 2 + ((v 0 + P) / 1020 - v 0 / 1020)) (d := 64) (by omega) (by omega) (by omega)
      have re' : f_L_rest (zI (v 2 + ((v 0 + P) / 1020 - v 0 / 1020))) 64 τ = zI ((v 2 + ((v 0 + P) / 1020 - v 0 / 1020)) % 64) := re.2
      rw [r.2.2, r.2.1, r.1, z_add, re']
      exact g_n (n_eq (b := 0) q1 (by unfold zB; omega) (by unfold zB; omega)) (g_s (ct4 t3).1 (g_t rfl (g_s (ct2 t3).1 (g_s re.1 (g_t rfl fin)))))
  · have t := k_turnN h bP q
    refine g_s t.1 ?_
    rw [t.2]
    refine g_n (show ¬ (0 : Int32) ≤ -2 by decide) (g_t rfl ?_)
    by_cases q2 : v 0 + P < 0
    · exact g_t (y_lt (b := 0) q2 (by unfold zB; omega) (by unfold zB; omega)) (g_e ⟨σ, v, n, hs, rfl, h⟩)
    · exact g_n (n_lt (b := 0) (by omega) (by unfold zB; omega) (by unfold zB; omega)) (g_n (n_le (b := 65279) (by omega) (by unfold zB; omega) (by unfold zB; omega)) (g_e ⟨σ, v, n, hs, rfl, h⟩))
end K6
