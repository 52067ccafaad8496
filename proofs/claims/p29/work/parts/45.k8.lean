set_option linter.all false
/-! a sector that is learned finds its angles -/
theorem dist_0 {L a : Int} (hL : 0 < L) : dist L a (a % L) = 0 := by
  have h := Int.emod_add_mul_ediv a L
  have e1 : (a % L - a) % L = 0 := by
    have q : a % L - a = 0 + L * (-(a / L)) := by rw [Int.mul_neg]; omega
    rw [q, Int.add_mul_emod_self_left]
    exact Int.zero_emod L
  have e2 : (a - a % L) % L = 0 := by
    have q : a - a % L = 0 + L * (a / L) := by omega
    rw [q, Int.add_mul_emod_self_left]
    exact Int.zero_emod L
  unfold dist
  rw [e1, e2]
  rfl
theorem dist_n {L a b : Int} (hL : 0 < L) (h : dist L b (a % L) = 0) : b % L = a % L := by
  rw [← dist_off hL] at h
  have b1 := Int.emod_nonneg (b - a % L) (show L ≠ 0 by omega)
  have b2 := Int.emod_lt_of_pos (b - a % L) hL
  have h0 : (b - a % L) % L = 0 := by split at h <;> omega
  have r1 := Int.emod_nonneg a (show L ≠ 0 by omega)
  have r2 := Int.emod_lt_of_pos a hL
  have hd := Int.emod_add_mul_ediv (b - a % L) L
  have e : b = a % L + L * ((b - a % L) / L) := by omega
  rw [e, Int.add_mul_emod_self_left, Int.emod_eq_of_lt r1 r2]
theorem dev_self (a : Int) : dev a (a % 272) (a % 255) (a % 240) = 0 := by
  unfold dev
  rw [dist_0 (by omega), dist_0 (by omega), dist_0 (by omega)]
  rfl
theorem near_self {a : Int} (h : 0 ≤ a ∧ a < 4080) : near (a % 272) (a % 255) (a % 240) = a := by
  refine (near_eq ⟨h.1, h.2, fun b _ _ => ?_, fun b b0 b1 => ?_⟩).symm
  · rw [dev_self]
    exact (dev_b b _ _ _).1
  · rw [dev_self]
    have d0 := (dev_b b (a % 272) (a % 255) (a % 240)).1
    by_cases q : dev b (a % 272) (a % 255) (a % 240) = 0
    · have x0 := dist_b (L := 272) (a := b) (b := a % 272) (by omega)
      have x1 := dist_b (L := 255) (a := b) (b := a % 255) (by omega)
      have x2 := dist_b (L := 240) (a := b) (b := a % 240) (by omega)
      unfold dev mx at q
      have y0 : dist 272 b (a % 272) = 0 := by split at q <;> split at q <;> omega
      have y1 : dist 255 b (a % 255) = 0 := by split at q <;> split at q <;> omega
      have y2 : dist 240 b (a % 240) = 0 := by split at q <;> split at q <;> omega
      have m0 := dist_n (by omega) y0
      have m1 := dist_n (by omega) y1
      have m2 := dist_n (by omega) y2
      omega
    · omega
theorem lV_lo {v : Nat → Int} {s k : Nat} (hk : k < 38) : lV v s k = v k := by
  unfold lV
  show (if k = _ then _ else if k = _ then _ else if k = _ then _ else v k) = v k
  rw [if_neg (by omega), if_neg (by omega), if_neg (by omega)]
theorem lV_at {v : Nat → Int} {s t : Nat} (ht : t < 3) (hs : s < 8) : lV v s (38 + (8 * t + s)) = aEx v t := by
  unfold lV
  show (if (38 + (8 * t + s)) = 38 + (8 * 2 + s) then aEx v 2 else if (38 + (8 * t + s)) = 38 + (8 * 1 + s) then aEx v 1 else if (38 + (8 * t + s)) = 38 + (8 * 0 + s) then aEx v 0 else v (38 + (8 * t + s))) = aEx v t
  match t, ht with
  | 0, _ => rw [if_neg (by omega), if_neg (by omega), if_pos rfl]
  | 1, _ => rw [if_neg (by omega), if_pos rfl]
  | 2, _ => rw [if_pos rfl]
theorem lV_ang {v : Nat → Int} {s : Nat} : aAng (lV v s) = aAng v := by
  unfold aAng
  rw [lV_lo (by omega)]
theorem lV_rd {v : Nat → Int} {s t : Nat} (ht : t < 3) : aRd (lV v s) t (aAng v) = aRd v t (aAng v) := by
  have h8 := (sec_b (aAng_b v)).1
  unfold aRd
  rw [lV_lo (by omega), lV_lo (by omega)]
theorem lV_cr {N : Int} {v : Nat → Int} {t : Nat} (hv : VS N v) (ht : t < 3) : (aRd v t (aAng v) - aEx v t) % aLen t = aAng v % aLen t := by
  have h := Int.emod_add_mul_ediv (aAng v + er v t) (aLen t)
  rw [aEx_e hv ht, aRd_e]
  have e : (aAng v + er v t) % aLen t - er v t = aAng v + aLen t * (-((aAng v + er v t) / aLen t)) := by rw [Int.mul_neg]; omega
  rw [e, Int.add_mul_emod_self_left]
theorem lV_f2 {N : Int} {v : Nat → Int} (hv : VS N v) : f2 (lV v (sec (aAng v))) (aAng v) (sec (aAng v)) = aAng v ∧ d2 (lV v (sec (aAng v))) (aAng v) (sec (aAng v)) = 0 := by
  have h8 := (sec_b (aAng_b v)).1
  have c : ∀ t, t < 3 → aCr (lV v (sec (aAng v))) t (aRd (lV v (sec (aAng v))) t (aAng v)) (sec (aAng v)) = aAng v % aLen t := fun t ht => by
    unfold aCr
    rw [lV_rd ht, lV_at ht h8]
    exact lV_cr hv ht
  have e : f2 (lV v (sec (aAng v))) (aAng v) (sec (aAng v)) = aAng v := by
    unfold f2
    rw [c 0 (by omega), c 1 (by omega), c 2 (by omega)]
    exact near_self (aAng_b v)
  refine ⟨e, ?_⟩
  unfold d2
  rw [e, c 0 (by omega), c 1 (by omega), c 2 (by omega)]
  exact dev_self _
theorem lB_b (v : Nat → Int) (t s : Nat) : 0 ≤ lB v t s ∧ lB v t s ≤ 1 := by unfold lB; split <;> omega
section K8
variable {N : Int} {σ : Sg} {v : Nat → Int} {n : Nat} {hs : Nat → Nat → Int}
theorem IS.hi {τ : Sg} (h : IS N σ v n hs) (g : ∀ c, c < 34 → τ c = σ c) : IS N τ v n hs :=
  ⟨h.1.fr (fun c hc => g c (by omega)) (by rw [g 30 (by omega)]) (g 31 (by omega)), h.2⟩
theorem l_162 {w : Nat → Int} (h : IS N σ (lV w (sec (aAng w))) n hs) (hw : VS N w) {x : Int32} : G2 (ok_L_isLearned_162 (zI (aAng w)) (zI (sec (aAng w) : Nat)) x x 1 σ) (f_L_isLearned_162 (zI (aAng w)) (zI (sec (aAng w) : Nat)) x x 1 σ) (PI N) := by
  have ba := aAng_b w
  have sb := sec_b ba
  have f := lV_f2 hw
  have bt0 := l_byT h sb.1 (w := 0) (by omega)
  rw [lV_ang, if_pos rfl, f.1] at bt0
  have bt1 := l_byT h sb.1 (w := 1) (by omega)
  rw [lV_ang, if_neg (by omega), f.2] at bt1
  have bt0' : f_L_byTable (zI (sec (aAng w) : Nat)) 0 σ = zI (aAng w) := bt0.2
  have bt1' : f_L_byTable (zI (sec (aAng w) : Nat)) 1 σ = zI 0 := bt1.2
  obtain ⟨k1, τ1, e1, h1, m1⟩ := k_look h (P := 2) (by omega)
  have e1' : f_X5_look 2 σ = (zI (f1 (lV w (sec (aAng w))) (aAng (lV w (sec (aAng w))))), τ1) := e1
  obtain ⟨k2, τ2, e2, h2, m2⟩ := k_look h1 (P := 0) (by omega)
  have e2' : f_X5_look 0 τ1 = (zI (fL (lV w (sec (aAng w))) (aAng (lV w (sec (aAng w))))), τ2) := e2
  obtain ⟨k3, τ3, e3, h3, m3⟩ := k_look h2 (P := 1) (by omega)
  have e3' : f_X5_look 1 τ2 = (zI (fD (lV w (sec (aAng w))) (aAng (lV w (sec (aAng w))))), τ3) := e3
  obtain ⟨k4, τ4, e4, h4, m4⟩ := k_look h3 (P := 3) (by omega)
  have e4' : f_X5_look 3 τ3 = (zI (fN (lV w (sec (aAng w))) (aAng (lV w (sec (aAng w))))), τ4) := e4
  rw [lV_ang] at e1' e2' e3' e4'
  have b1 := f1_b (lV w (sec (aAng w))) (aAng w)
  have s1 := sec_b b1
  unfold ok_L_isLearned_162 f_L_isLearned_162
  rw [bt0', bt1', e1']
  refine g_n (by decide) (g_t rfl (g_s bt0.1 (g_t rfl (g_s bt1.1 (g_t rfl (g_s k1 ?_))))))
  dsimp only
  rw [secI b1]
  by_cases q : sec (f1 (lV w (sec (aAng w))) (aAng w)) = sec (aAng w)
  · have hS : fS (lV w (sec (aAng w))) (aAng w) = sec (aAng w) := by
      unfold fS
      rw [q, f.1, if_pos rfl]
    have hL : fL (lV w (sec (aAng w))) (aAng w) = aAng w := by
      unfold fL
      rw [hS, f.1]
    have hD : fD (lV w (sec (aAng w))) (aAng w) = 0 := by
      unfold fD
      rw [hS, f.2]
    have hN : fN (lV w (sec (aAng w))) (aAng w) = 2 := by
      unfold fN
      rw [q, f.1, if_pos rfl]
    rw [hL] at e2'
    rw [hD] at e3'
    rw [hN] at e4'
    refine g_t (by rw [q]) (g_s k2 ?_)
    rw [e2']
    refine g_t rfl (g_s k3 ?_)
    dsimp only
    rw [e3']
    refine g_t rfl (g_s k4 ?_)
    dsimp only
    rw [e4']
    exact g_t rfl (g_e ⟨τ4, _, _, _, rfl, h4⟩)
  · exact g_n (n_eq (by omega) (by unfold zB; omega) (by unfold zB; omega)) (g_e ⟨τ1, _, _, _, rfl, h1⟩)
theorem l_67 {w : Nat → Int} (h : IS N σ (lV w (sec (aAng w))) n hs) (hw : VS N w) (h34 : ∀ j, j < 3 → σ 34 j = zI (w (38 + (8 * j + sec (aAng w))) + 100)) : ∀ (k m i : Nat) (a T : Int), i + m = 3 → m < k → (a + (if i ≤ 0 then lB w 0 (sec (aAng w)) else 0) + (if i ≤ 1 then lB w 1 (sec (aAng w)) else 0) + (if i ≤ 2 then lB w 2 (sec (aAng w)) else 0) = T) → G2 (ok_L_isLearned_67 k (zI (aAng w)) (zI (sec (aAng w) : Nat)) (zI a) (zI T) 1 (zI i) σ) (f_L_isLearned_67 k (zI (aAng w)) (zI (sec (aAng w) : Nat)) (zI a) (zI T) 1 (zI i) σ) (PI N) := by
  intro k
  induction k with
  | zero => intro m i a T h1 h2; omega
  | succ k ih =>
    intro m i a T h1 h2 h3
    have ba := aAng_b w
    have sb := sec_b ba
    unfold ok_L_isLearned_67 f_L_isLearned_67
    match m with
    | 0 =>
      rw [if_neg (by omega), if_neg (by omega), if_neg (by omega)] at h3
      rw [show T = a by omega]
      exact g_t (y_le (a := 3) (by omega) (by unfold zB; omega) (by unfold zB; omega)) (l_162 h hw)
    | m + 1 =>
      have hi : i < 3 := by omega
      have ll := aLen_b i
      have eb := er_b hw hi
      have ex := aEx_e hw hi
      have co := k_corr h hi sb.1
      rw [lV_at hi sb.1] at co
      have rd := k_read h hi
      rw [lV_ang, lV_rd hi] at rd
      have br := aRd_b w i (aAng w)
      have pe := l_period (σ := σ) hi
      have wb := hw.2.2.2.2.2.2.2.2.2.2.2.2 (38 + (8 * i + sec (aAng w))) (by omega) (by omega)
      have lb := lB_b w i (sec (aAng w))
      have e1 : (zI (aRd w i (aAng w)) - zI (aEx w i + 100)) + 100 = zI (aRd w i (aAng w) - aEx w i) := by
        rw [z_sub, show (100 : Int32) = zI 100 from rfl, z_add]
        congr 1
        omega
      have re := l_rest (σ := σ) (a := aRd w i (aAng w) - aEx w i) (d := aLen i) (by omega) (by omega) (by omega)
      rw [lV_cr hw hi] at re
      have em : zI (aAng w) - zI (aAng w) / zI (aLen i) * zI (aLen i) = zI (aAng w % aLen i) := by
        rw [z_rem (by unfold zB; omega) (by omega) (by omega), Int.tmod_eq_emod_of_nonneg ba.1]
      have s103 : ∀ (y : Int), y = lB w i (sec (aAng w)) → G2 (ok_L_isLearned_103 (ok_L_isLearned_67 k) (zI (aAng w)) (zI (sec (aAng w) : Nat)) (zI T) (zI i) (zI (aEx w i + 100)) (zI y) (zI a) σ) (f_L_isLearned_103 (f_L_isLearned_67 k) (zI (aAng w)) (zI (sec (aAng w) : Nat)) (zI T) (zI i) (zI (aEx w i + 100)) (zI y) (zI a) σ) (PI N) := fun y hy => by
        have r := ih m (i + 1) (a + y) T (by omega) (by omega) (by
          rcases (by omega : i = 0 ∨ i = 1 ∨ i = 2) with e | e | e
          · subst e
            rw [if_pos (by omega), if_pos (by omega), if_pos (by omega)] at h3
            rw [if_neg (by omega), if_pos (by omega), if_pos (by omega)]
            omega
          · subst e
            rw [if_neg (by omega), if_pos (by omega), if_pos (by omega)] at h3
            rw [if_neg (by omega), if_neg (by omega), if_pos (by omega)]
            omega
          · subst e
            rw [if_neg (by omega), if_neg (by omega), if_pos (by omega)] at h3
            rw [if_neg (by omega), if_neg (by omega), if_neg (by omega)]
            omega)
        have nz : ¬ zI (aLen i) = 0 := len_nz i
        unfold ok_L_isLearned_103 f_L_isLearned_103
        rw [rd.2, pe.2, e1, re.2, em, z_add, z_s]
        exact g_n (n_le (b := 81) (by omega) (by unfold zB; omega) (by unfold zB; omega)) (g_n (n_le (a := 119) (by omega) (by unfold zB; omega) (by unfold zB; omega)) (g_s rd.1 (g_s pe.1 (g_s re.1 (g_s pe.1 (g_s nz (g_t rfl r)))))))
      have en : (zI (i : Int)).toNatClampNeg = i := by rw [z_nat (by unfold zB; omega)]; omega
      rw [co.2, en, h34 i hi]
      refine g_n (n_le (a := 3) (by omega) (by unfold zB; omega) (by unfold zB; omega)) (g_n (by decide) (g_s co.1 (g_s (z_in (by omega) (by omega) (by omega)) ?_)))
      by_cases q : w (38 + (8 * i + sec (aAng w))) = aEx w i
      · refine g_t (by rw [q]) ?_
        exact s103 0 (by unfold lB; rw [if_pos q])
      · refine g_n (n_eq (by omega) (by unfold zB; omega) (by unfold zB; omega)) ?_
        exact s103 1 (by unfold lB; rw [if_neg q])
theorem l_22 : ∀ (k m i : Nat) (σ : Sg), IS N σ v n hs → (∀ j, j < i → σ 34 j = zI (v (38 + (8 * j + sec (aAng v))) + 100)) → i + m = 3 → m < k → G2 (ok_L_isLearned_22 k (zI (aAng v)) (zI (sec (aAng v) : Nat)) 0 (zI i) σ) (f_L_isLearned_22 k (zI (aAng v)) (zI (sec (aAng v) : Nat)) 0 (zI i) σ) (PI N) := by
  intro k
  induction k with
  | zero => intro m i σ h g h1 h2; omega
  | succ k ih =>
    intro m i σ h g h1 h2
    have hv := h.2.1
    have ba := aAng_b v
    have sb := sec_b ba
    unfold ok_L_isLearned_22 f_L_isLearned_22
    match m with
    | 0 =>
      have q0 := er_b (t := 0) hv (by omega)
      have q1 := er_b (t := 1) hv (by omega)
      have q2 := er_b (t := 2) hv (by omega)
      rw [← aEx_e hv (by omega)] at q0 q1 q2
      obtain ⟨k1, τ, k2, k3, k4⟩ := k_learn h (by omega) (by omega) (by omega)
      have l0 := lB_b v 0 (sec (aAng v))
      have l1 := lB_b v 1 (sec (aAng v))
      have l2 := lB_b v 2 (sec (aAng v))
      rw [k2]
      refine g_t (y_le (a := 3) (by omega) (by unfold zB; omega) (by unfold zB; omega)) (g_s k1 ?_)
      dsimp only
      refine g_n (n_lt (b := 0) (by omega) (by unfold zB; omega) (by unfold zB; omega)) ?_
      exact l_67 k3 hv (fun j hj => by rw [k4 34 (by omega)]; exact g j (by omega)) oF 3 0 0 _ (by omega) (by rw [oF_eq]; omega) (by rw [if_pos (by omega), if_pos (by omega), if_pos (by omega)]; omega)
    | m + 1 =>
      have hi : i < 3 := by omega
      have co := k_corr h hi sb.1
      have en : (zI (i : Int)).toNatClampNeg = i := by rw [z_nat (by unfold zB; omega)]; omega
      have r := ih m (i + 1) (pu σ 34 i (zI (v (38 + (8 * i + sec (aAng v))) + 100))) (h.hi (fun c hc => pu_ne (by omega))) (fun j hj => by
        by_cases e : j = i
        · rw [e, pu_at]
        · rw [pu_un (by omega)]
          exact g j (by omega)) (by omega) (by omega)
      rw [co.2, en, z_s]
      exact g_n (n_le (a := 3) (by omega) (by unfold zB; omega) (by unfold zB; omega)) (g_s co.1 (g_s (z_in (by omega) (by omega) (by omega)) r))
theorem l_learned (h : IS N σ v n hs) : G2 (ok_L_isLearned σ) (f_L_isLearned σ) (PI N) := by
  have ba := aAng_b v
  have c1 := k_count h (P := 1) (by unfold zB; omega)
  have c1' : f_X5_count 1 σ = zI (aAng v) := c1.2
  have r := l_22 oF 3 0 (nz σ) (h.hi (fun c hc => nz_ne (by omega))) (fun j hj => by omega) (by omega) (by rw [oF_eq]; omega)
  unfold ok_L_isLearned f_L_isLearned
  rw [c1', secI ba]
  exact g_s c1.1 r
end K8
