set_option linter.all false
/-! what fits -/
theorem G2.mono {α : Type} {ok : Prop} {F : α} {P Q : α → Prop} (h : G2 ok F P) (g : ∀ x, P x → Q x) : G2 ok F Q := ⟨h.1, g _ h.2⟩
def PF (N : Int) (σ : Sg) (v : Nat → Int) (n : Nat) (hs : Nat → Nat → Int) (q : Int32 × Sg) : Prop := ∃ τ, q = (1, τ) ∧ IS N τ v n hs ∧ sm σ τ
theorem PF.tr {N : Int} {σ τ : Sg} {v : Nat → Int} {n : Nat} {hs : Nat → Nat → Int} (g : sm σ τ) : ∀ q, PF N τ v n hs q → PF N σ v n hs q := fun q ⟨u, a, b, c⟩ => ⟨u, a, b, g.tr c⟩
def er (v : Nat → Int) (t : Nat) : Int := v (11 + (8 * t + sec (aAng v))) + v (35 + t)
theorem er_b {N : Int} {v : Nat → Int} {t : Nat} (hv : VS N v) (ht : t < 3) : -18 ≤ er v t ∧ er v t ≤ 18 := by
  have s := (sec_b (aAng_b v)).1
  have a := hv.2.2.2.2.2.2.2.2.2.2.2.1 (11 + (8 * t + sec (aAng v))) (by omega) (by omega)
  have b := hv.2.2.2.2.2.2.2.2.2.2.2.1 (35 + t) (by omega) (by omega)
  unfold er
  omega
theorem sub_mod {a e L : Int} (hL : 0 < L) : ((a + e) % L - a) % L = e % L ∧ (a - (a + e) % L) % L = (-e) % L := by
  have h := Int.emod_add_mul_ediv (a + e) L
  constructor
  · have q : (a + e) % L - a = e + L * (-((a + e) / L)) := by rw [Int.mul_neg]; omega
    rw [q, Int.add_mul_emod_self_left]
  · have q : a - (a + e) % L = -e + L * ((a + e) / L) := by omega
    rw [q, Int.add_mul_emod_self_left]
theorem aRd_e {v : Nat → Int} {t : Nat} : aRd v t (aAng v) = (aAng v + er v t) % aLen t := by
  unfold aRd er
  rw [Int.add_assoc]
theorem rd_near {N : Int} {v : Nat → Int} {t : Nat} (hv : VS N v) (ht : t < 3) : dist (aLen t) (aRd v t (aAng v)) (aAng v) < 19 := by
  have e := er_b hv ht
  have l := aLen_b t
  have m := sub_mod (a := aAng v) (e := er v t) (L := aLen t) (by omega)
  rw [aRd_e]
  unfold dist
  rw [m.1, m.2]
  by_cases q : 0 ≤ er v t
  · have a := Int.emod_eq_of_lt (a := er v t) (b := aLen t) q (by omega)
    rw [a]
    split <;> omega
  · have a := Int.emod_eq_of_lt (a := -er v t) (b := aLen t) (by omega) (by omega)
    rw [a]
    split <;> omega
theorem aEx_e {N : Int} {v : Nat → Int} {t : Nat} (hv : VS N v) (ht : t < 3) : aEx v t = er v t := by
  have e := er_b hv ht
  have l := aLen_b t
  have m := (sub_mod (a := aAng v) (e := er v t) (L := aLen t) (by omega)).1
  unfold aEx
  rw [aRd_e, m]
  by_cases q : 0 ≤ er v t
  · rw [Int.emod_eq_of_lt (a := er v t) (b := aLen t) q (by omega), if_pos (by omega)]
  · have a : er v t % aLen t = er v t + aLen t := by
      have := Int.add_emod_right (er v t) (aLen t)
      rw [← this]
      exact Int.emod_eq_of_lt (by omega) (by omega)
    rw [a, if_neg (by omega)]
    omega
theorem pq_b (v : Nat → Int) (s : Nat) : 0 ≤ pq v s ∧ pq v s ≤ 1 := by unfold pq; split <;> omega
theorem pc_b (v : Nat → Int) : ∀ (m i : Nat), 0 ≤ pc v i m ∧ pc v i m ≤ m
  | 0, i => by unfold pc; omega
  | m + 1, i => by
    have a := pc_b v m (i + 1)
    have b := pq_b v i
    unfold pc
    omega
theorem cn_b (v : Nat → Int) : ∀ (m i : Nat), 0 ≤ cn v i m ∧ cn v i m ≤ m
  | 0, i => by unfold cn; omega
  | m + 1, i => by
    have a := cn_b v m (i + 1)
    unfold cn
    split <;> omega
section K5
variable {N : Int} {σ : Sg} {v : Nat → Int} {n : Nat} {hs : Nat → Nat → Int}
theorem l_452 (h : IS N σ v n hs) : G2 (ok_L_fits_452 1 (zI (f1 v (aAng v))) (zI (fL v (aAng v))) (zI (f2 v (aAng v) (sec (f1 v (aAng v))))) (zI (fL v (aAng v))) (zI (fS v (aAng v) : Nat)) σ) (f_L_fits_452 1 (zI (f1 v (aAng v))) (zI (fL v (aAng v))) (zI (f2 v (aAng v) (sec (f1 v (aAng v))))) (zI (fL v (aAng v))) (zI (fS v (aAng v) : Nat)) σ) (PF N σ v n hs) := by
  have b1 := f1_b v (aAng v)
  have b2 := f2_b v (aAng v) (sec (f1 v (aAng v)))
  have s1 := sec_b b1
  have s2 := sec_b b2
  have hS : fS v (aAng v) < 8 := by unfold fS; split <;> omega
  have bt := l_byT h hS (w := 1) (by omega)
  rw [if_neg (by omega)] at bt
  have bt' : f_L_byTable (zI (fS v (aAng v) : Nat)) 1 σ = zI (d2 v (aAng v) (fS v (aAng v))) := bt.2
  obtain ⟨k1, τ1, e1, h1, m1⟩ := k_look h (P := 1) (by omega)
  have e1' : f_X5_look 1 σ = (zI (fD v (aAng v)), τ1) := e1
  obtain ⟨k2, τ2, e2, h2, m2⟩ := k_look h1 (P := 3) (by omega)
  have e2' : f_X5_look 3 τ1 = (zI (fN v (aAng v)), τ2) := e2
  unfold ok_L_fits_452 f_L_fits_452
  rw [bt', e1']
  refine g_s bt.1 (g_n (by decide) (g_t rfl (g_s k1 ?_)))
  refine g_t rfl (g_s k2 ?_)
  dsimp only
  rw [e2', secI b1, secI b2]
  dsimp only
  unfold fN
  by_cases q : sec (f2 v (aAng v) (sec (f1 v (aAng v)))) = sec (f1 v (aAng v))
  · refine g_t (by rw [q]) ?_
    rw [if_pos q]
    exact g_t rfl (g_e ⟨τ2, rfl, h2, m1.tr m2⟩)
  · refine g_n (n_eq (by omega) (by unfold zB; omega) (by unfold zB; omega)) ?_
    rw [if_neg q]
    exact g_t rfl (g_e ⟨τ2, rfl, h2, m1.tr m2⟩)
theorem l_373 (h : IS N σ v n hs) : G2 (ok_L_fits_373 (zI (f1 v (aAng v))) (zI (fL v (aAng v))) 1 σ) (f_L_fits_373 (zI (f1 v (aAng v))) (zI (fL v (aAng v))) 1 σ) (PF N σ v n hs) := by
  have b1 := f1_b v (aAng v)
  have b2 := f2_b v (aAng v) (sec (f1 v (aAng v)))
  have s1 := sec_b b1
  have s2 := sec_b b2
  have bt := l_byT h s1.1 (w := 0) (by omega)
  have bt' : f_L_byTable (zI (sec (f1 v (aAng v)) : Nat)) 0 σ = zI (f2 v (aAng v) (sec (f1 v (aAng v)))) := bt.2
  have bu := l_byT h s2.1 (w := 0) (by omega)
  have bu' : f_L_byTable (zI (sec (f2 v (aAng v) (sec (f1 v (aAng v)))) : Nat)) 0 σ = zI (f2 v (aAng v) (sec (f2 v (aAng v) (sec (f1 v (aAng v)))))) := bu.2
  have r := l_452 h
  unfold ok_L_fits_373 f_L_fits_373
  rw [secI b1, bt', secI b2, bu']
  refine g_s bt.1 ?_
  unfold ok_L_fits_419 f_L_fits_419
  rw [secI b1, secI b2]
  by_cases q : sec (f2 v (aAng v) (sec (f1 v (aAng v)))) = sec (f1 v (aAng v))
  · have hS : fS v (aAng v) = sec (f1 v (aAng v)) := if_pos q
    have hL : fL v (aAng v) = f2 v (aAng v) (sec (f1 v (aAng v))) := by unfold fL; rw [hS]
    rw [hS, hL] at r
    rw [hL]
    exact g_t (by rw [q]) (g_t (by rw [q]) r)
  · have hS : fS v (aAng v) = sec (f2 v (aAng v) (sec (f1 v (aAng v)))) := if_neg q
    have hL : fL v (aAng v) = f2 v (aAng v) (sec (f2 v (aAng v) (sec (f1 v (aAng v))))) := by unfold fL; rw [hS]
    rw [hS, hL] at r
    rw [hL]
    have ne : ¬ zI (sec (f2 v (aAng v) (sec (f1 v (aAng v)))) : Nat) = zI (sec (f1 v (aAng v)) : Nat) := n_eq (by omega) (by unfold zB; omega) (by unfold zB; omega)
    exact g_n ne (g_s bu.1 (g_n ne r))
theorem l_305 (h : IS N σ v n hs) : G2 (ok_L_fits_305 (zI (aAng v)) 1 σ) (f_L_fits_305 (zI (aAng v)) 1 σ) (PF N σ v n hs) := by
  have ba := aAng_b v
  have bl := fL_b v (aAng v)
  obtain ⟨k1, τ1, e1, h1, m1⟩ := k_look h (P := 2) (by omega)
  have e1' : f_X5_look 2 σ = (zI (f1 v (aAng v)), τ1) := e1
  obtain ⟨k2, τ2, e2, h2, m2⟩ := k_look h1 (P := 0) (by omega)
  have e2' : f_X5_look 0 τ1 = (zI (fL v (aAng v)), τ2) := e2
  obtain ⟨k3, τ3, e3, h3, m3⟩ := k_look h2 (P := 4) (by omega)
  have e3' : f_X5_look 4 τ2 = (zI (if fL v (aAng v) = aAng v then 1 else 0), τ3) := e3
  have r0 := k_read h2 (t := 0) (by omega)
  have r1 := k_read h2 (t := 1) (by omega)
  have r2 := k_read h2 (t := 2) (by omega)
  have r0' : f_X5_reading 0 τ2 = zI (aRd v 0 (aAng v)) := r0.2
  have r1' : f_X5_reading 1 τ2 = zI (aRd v 1 (aAng v)) := r1.2
  have r2' : f_X5_reading 2 τ2 = zI (aRd v 2 (aAng v)) := r2.2
  have fo := k_found h2 (P4 := 0) (rdg_rd v (aAng v)) (by omega)
  have fo' : f_X5_found (zI (aRd v 0 (aAng v))) (zI (aRd v 1 (aAng v))) (zI (aRd v 2 (aAng v))) 0 τ2 = zI (f1 v (aAng v)) := fo.2
  have r := (l_373 h3).mono (PF.tr ((m1.tr m2).tr m3))
  unfold ok_L_fits_305 f_L_fits_305
  rw [e1']
  refine g_s k1 ?_
  dsimp only
  rw [e2']
  refine g_s k2 ?_
  dsimp only
  rw [r0', r1', r2', fo']
  refine g_n (by decide) (g_s r0.1 (g_s r1.1 (g_s r2.1 (g_s fo.1 (g_t rfl (g_s k3 ?_))))))
  rw [e3']
  dsimp only
  unfold ok_L_fits_365 f_L_fits_365
  by_cases q : fL v (aAng v) = aAng v
  · refine g_t (by rw [q]) ?_
    exact g_t (by rw [if_pos q]; rfl) r
  · refine g_n (n_eq q (by unfold zB; omega) (by unfold zB; omega)) ?_
    exact g_t (by rw [if_neg q]; rfl) r
theorem l_260 (h : IS N σ v n hs) : ∀ (k m i : Nat), i + m = 3 → m < k → G2 (ok_L_fits_260 k (zI (aAng v)) 1 (zI i) σ) (f_L_fits_260 k (zI (aAng v)) 1 (zI i) σ) (PF N σ v n hs) := by
  intro k
  induction k with
  | zero => intro m i h1 h2; omega
  | succ k ih =>
    intro m i h1 h2
    unfold ok_L_fits_260 f_L_fits_260
    match m with
    | 0 => exact g_t (y_le (a := 3) (by omega) (by unfold zB; omega) (by unfold zB; omega)) (l_305 h)
    | m + 1 =>
      have hi : i < 3 := by omega
      have ba := aAng_b v
      have rd := k_read h hi
      have br := aRd_b v i (aAng v)
      have ll := aLen_b i
      have pe := l_period (σ := σ) hi
      have ne := l_nearD (σ := σ) (a := aRd v i (aAng v)) (b := aAng v) (d := aLen i) (by omega) (by omega) (by omega)
      have dn := rd_near h.2.1 hi
      have db := dist_b (L := aLen i) (a := aRd v i (aAng v)) (b := aAng v) (by omega)
      have r := ih m (i + 1) (by omega) (by omega)
      rw [rd.2, pe.2, z_sub, ne.2, z_s]
      exact g_n (n_le (a := 3) (by omega) (by unfold zB; omega) (by unfold zB; omega)) (g_n (by decide) (g_s rd.1 (g_s pe.1 (g_s ne.1 (g_n (n_le (a := 19) (by omega) (by unfold zB; omega) (by unfold zB; omega)) r)))))
theorem l_231 (h : IS N σ v n hs) {y : Int32} : G2 (ok_L_fits_231 (zI (aAng v)) y y σ) (f_L_fits_231 (zI (aAng v)) y y σ) (PF N σ v n hs) := by
  have p := k_poor h
  have pb := pc_b v 8 0
  have r := l_260 h oF 3 0 (by omega) (by rw [oF_eq]; omega)
  unfold ok_L_fits_231 f_L_fits_231
  rw [p.2]
  exact g_t rfl (g_s p.1 (g_n (n_lt (b := 0) (by omega) (by unfold zB; omega) (by unfold zB; omega)) (g_s p.1 (g_n (n_le (a := 9) (by omega) (by unfold zB; omega) (by unfold zB; omega)) r))))
theorem l_20 (h : IS N σ v n hs) : ∀ (k m i : Nat) (a : Int), i + m = 24 → m < k → a + cn v i m = cn v 0 24 → 0 ≤ a → a ≤ i → G2 (ok_L_fits_20 k (zI (v 0)) (zI (aAng v)) (zI a) (zI i) σ) (f_L_fits_20 k (zI (v 0)) (zI (aAng v)) (zI a) (zI i) σ) (PF N σ v n hs) := by
  intro k
  induction k with
  | zero => intro m i a h1 h2; omega
  | succ k ih =>
    intro m i a h1 h2 h3 h4 h5
    have hv := h.2.1
    have v0 := hv.1
    have v2 := hv.2.2.1
    have v3 := hv.2.2.2.1
    have v4 := hv.2.2.2.2.1
    have v5 := hv.2.2.2.2.2.1
    have v10 := hv.2.2.2.2.2.2.2.2.2.2.1
    have ba := aAng_b v
    unfold ok_L_fits_20 f_L_fits_20
    match m with
    | 0 =>
      have c2 := k_count h (P := 2) (by unfold zB; omega)
      have c4 := k_count h (P := 4) (by unfold zB; omega)
      have c5 := k_count h (P := 5) (by unfold zB; omega)
      have c6 := k_count h (P := 6) (by unfold zB; omega)
      have c8 := k_count h (P := 8) (by unfold zB; omega)
      have c9 := k_count h (P := 9) (by unfold zB; omega)
      have c23 := k_count h (P := 23) (by unfold zB; omega)
      have c2' : f_X5_count 2 σ = zI (v 2) := c2.2
      have c4' : f_X5_count 4 σ = zI (v 3) := c4.2
      have c5' : f_X5_count 5 σ = zI (v 4) := c5.2
      have c6' : f_X5_count 6 σ = zI (if v 5 = -1 then -4 else v 5) := c6.2
      have c8' : f_X5_count 8 σ = zI (aCo v) := c8.2
      have c9' : f_X5_count 9 σ = zI (cn v 0 24) := c9.2
      have c23' : f_X5_count 23 σ = zI (v 10 + 100) := c23.2
      have em : zI (v 0) - zI (v 0) / 4080 * 4080 = zI (aAng v) := by
        have e := z_rem (a := v 0) (b := 4080) (by unfold zB; omega) (by omega) (by omega)
        rw [Int.tmod_eq_emod_of_nonneg v0.1] at e
        exact e
      have ec : (zI (aAng v) * 64 / 4080 + zI (v 10 + 100)) - 100 = zI (aAng v * 64 / 4080 + v 10) := by
        rw [co_64 ba, z_add, show (100 : Int32) = zI 100 from rfl, z_sub]
        congr 1
        omega
      have re := l_rest (σ := σ) (a := aAng v * 64 / 4080 + v 10) (d := 64) (by omega) (by omega) (by omega)
      have re' : f_L_rest (zI (aAng v * 64 / 4080 + v 10)) 64 σ = zI (aCo v) := re.2
      have ap := k_apart h
      rw [c2', c4', c5', c6', c8', c9', c23', em, ec, re', ap.2]
      rw [show cn v i 0 = 0 from rfl] at h3
      refine g_t (y_le (a := 24) (by omega) (by unfold zB; omega) (by unfold zB; omega)) ?_
      refine g_n (n_lt (b := 0) (by omega) (by unfold zB; omega) (by unfold zB; omega)) ?_
      refine g_n (n_le (a := 65280) (by omega) (by unfold zB; omega) (by unfold zB; omega)) ?_
      refine g_t rfl (g_s c2.1 ?_)
      refine g_n (n_lt (b := 0) (by omega) (by unfold zB; omega) (by unfold zB; omega)) (g_s c2.1 ?_)
      refine g_n (n_le (a := 64) (by omega) (by unfold zB; omega) (by unfold zB; omega)) (g_s c4.1 ?_)
      refine g_n (n_lt (b := 0) (by omega) (by unfold zB; omega) (by unfold zB; omega)) (g_s c4.1 ?_)
      refine g_n (n_le (a := 1000) (by omega) (by unfold zB; omega) (by unfold zB; omega)) (g_s c5.1 ?_)
      refine g_n (n_lt (b := 0) (by omega) (by unfold zB; omega) (by unfold zB; omega)) (g_s c5.1 ?_)
      refine g_n (n_le (a := 100) (by omega) (by unfold zB; omega) (by unfold zB; omega)) (g_s c8.1 (g_s c23.1 (g_s re.1 ?_)))
      refine g_t rfl (g_s c9.1 (g_t (by rw [show a = cn v 0 24 by omega]) (g_s c6.1 ?_)))
      unfold apR
      by_cases q : v 5 = -1
      · rw [if_pos q, if_pos q]
        refine g_n (by decide) (g_s c6.1 (g_n (by decide) (g_s ap.1 (g_s c6.1 (g_t rfl (l_231 h))))))
      · have ne := l_nearD (σ := σ) (a := v 5) (b := v 0) (d := 65280) (by omega) (by omega) (by omega)
        have ne' : f_L_near (zI (v 5 - v 0)) 65280 σ = zI (dist 65280 (v 5) (v 0)) := ne.2
        rw [if_neg q, if_neg q, z_sub, ne']
        refine g_n (n_lt (b := -4) (by omega) (by unfold zB; omega) (by unfold zB; omega)) (g_s c6.1 ?_)
        refine g_n (n_le (a := 65280) (by omega) (by unfold zB; omega) (by unfold zB; omega)) (g_s ap.1 (g_s c6.1 ?_))
        exact g_n (n_eq (b := -4) (by omega) (by unfold zB; omega) (by unfold zB; omega)) (g_s c6.1 (g_s ne.1 (l_231 h)))
    | m + 1 =>
      have e8 := z_8 (i := i) (by omega)
      have c := k_corr h (t := i / 8) (s := i % 8) (by omega) (by omega)
      rw [show 8 * (i / 8) + i % 8 = i by omega] at c
      have vk := hv.2.2.2.2.2.2.2.2.2.2.2.2 (38 + i) (by omega) (by omega)
      have z0 : zI a + 0 = zI (a + 0) := z_add a 0
      have z1 : zI a + 1 = zI (a + 1) := z_add a 1
      rw [e8.2, e8.1, c.2, z_s, z0, z1]
      refine g_n (n_le (a := 24) (by omega) (by unfold zB; omega) (by unfold zB; omega)) (g_s c.1 ?_)
      have eq : (zI (v (38 + i) + 100) = 100) ↔ v (38 + i) = 0 := by
        rw [z_n, z_eq (by unfold zB; omega) (by unfold zB; omega)]
        omega
      rw [show cn v i (m + 1) = (if v (38 + i) = 0 then 0 else 1) + cn v (i + 1) m from rfl] at h3
      by_cases q : v (38 + i) = 0
      · rw [if_pos q] at h3
        exact g_t (eq.mpr q) (ih m (i + 1) (a + 0) (by omega) (by omega) (by omega) (by omega) (by omega))
      · rw [if_neg q] at h3
        exact g_n (fun g => q (eq.mp g)) (ih m (i + 1) (a + 1) (by omega) (by omega) (by omega) (by omega) (by omega))
theorem l_fits (h : IS N σ v n hs) : ok_L_fits σ ∧ ∃ τ, f_L_fits σ = (1, τ) ∧ IS N τ v n hs ∧ sm σ τ := by
  show G2 (ok_L_fits σ) (f_L_fits σ) (PF N σ v n hs)
  have c0 := k_count h (P := 0) (by unfold zB; omega)
  have c1 := k_count h (P := 1) (by unfold zB; omega)
  have c0' : f_X5_count 0 σ = zI (v 0) := c0.2
  have c1' : f_X5_count 1 σ = zI (aAng v) := c1.2
  unfold ok_L_fits f_L_fits
  rw [c0', c1']
  exact g_s c0.1 (g_s c1.1 (l_20 h oF 24 0 0 (by omega) (by rw [oF_eq]; omega) (by omega) (by omega) (by omega)))
end K5
