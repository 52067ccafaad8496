set_option linter.all false
/-! a sample is as its reason -/
theorem ct20 {N : Int} {σ : Sg} {v : Nat → Int} {n : Nat} {hs : Nat → Nat → Int} (h : IS N σ v n hs) : ok_X5_count 20 σ ∧ f_X5_count 20 σ = zI (v 7) := k_count h (P := 20) (by unfold zB; omega)
theorem ct21 {N : Int} {σ : Sg} {v : Nat → Int} {n : Nat} {hs : Nat → Nat → Int} (h : IS N σ v n hs) : ok_X5_count 21 σ ∧ f_X5_count 21 σ = zI (v 8) := k_count h (P := 21) (by unfold zB; omega)
theorem ct22 {N : Int} {σ : Sg} {v : Nat → Int} {n : Nat} {hs : Nat → Nat → Int} (h : IS N σ v n hs) : ok_X5_count 22 σ ∧ f_X5_count 22 σ = zI (v 9) := k_count h (P := 22) (by unfold zB; omega)
theorem ct8 {N : Int} {σ : Sg} {v : Nat → Int} {n : Nat} {hs : Nat → Nat → Int} (h : IS N σ v n hs) : ok_X5_count 8 σ ∧ f_X5_count 8 σ = zI (aCo v) := k_count h (P := 8) (by unfold zB; omega)
def b5 (w : Nat → Int) : Int := if w 5 = -1 then -4 else w 5
theorem b5_b {N : Int} {w : Nat → Int} (hw : VS N w) : -4 ≤ b5 w ∧ b5 w < 65280 := by
  have h5 := hw.2.2.2.2.2.1
  unfold b5
  split <;> omega
section K7
variable {N M : Int} {σ : Sg} {v w : Nat → Int} {n : Nat} {hs : Nat → Nat → Int}
theorem l_378 (h : IS M σ v n hs) (hw : VS N w) {R Y P : Int} (hP : 0 ≤ P ∧ P < 65280) (hR : R = sT w Y P) (e5 : v 5 = if R = 0 then P else w 5) (e9 : v 9 = w 9) : G2 (ok_L_isSampled_378 (zI R) (zI (b5 w)) (zI P) 1 σ) (f_L_isSampled_378 (zI R) (zI (b5 w)) (zI P) 1 σ) (PI M) := by
  have w5 := hw.2.2.2.2.2.1
  have w9 := hw.2.2.2.2.2.2.2.2.2.1
  have c6 := ct6 h
  have c22 := ct22 h
  have fin : G2 True ((1 : Int32), σ) (PI M) := g_e ⟨σ, v, n, hs, rfl, h⟩
  have ne := l_nearD (σ := σ) (a := P) (b := w 5) (d := 65280) (by omega) (by omega) (by omega)
  have ne' : f_L_near (zI (P - w 5)) 65280 σ = zI (dist 65280 (w 5) P) := by rw [dist_comm]; exact ne.2
  have db := dist_b (L := 65280) (a := w 5) (b := P) (by omega)
  unfold ok_L_isSampled_378 f_L_isSampled_378
  rw [c6.2, c22.2, e9]
  refine g_n (by decide) ?_
  unfold sT at hR
  by_cases q : Y < 3
  · rw [if_pos q] at hR
    by_cases q5 : w 5 = -1
    · rw [if_pos q5] at hR
      rw [hR, if_pos rfl] at e5
      have eb : b5 w = -4 := if_pos q5
      rw [hR, eb, e5, if_neg (by omega)]
      exact g_t rfl (g_s c6.1 (g_t rfl (g_t rfl fin)))
    · rw [if_neg q5] at hR
      have eb : b5 w = w 5 := if_neg q5
      rw [eb, z_sub, ne']
      by_cases q9 : dist 65280 (w 5) P ≤ w 9
      · rw [if_pos q9] at hR
        rw [hR, if_pos rfl] at e5
        rw [hR, e5, if_neg (by omega)]
        exact g_t rfl (g_s c6.1 (g_t rfl (g_n (n_eq (b := -4) (by omega) (by unfold zB; omega) (by unfold zB; omega)) (g_s ne.1 (g_s c22.1 (g_n (n_lt q9 (by unfold zB; omega) (by unfold zB; omega)) fin))))))
      · rw [if_neg q9] at hR
        rw [hR, if_neg (by omega)] at e5
        rw [hR, e5, if_neg q5]
        exact g_n (by decide) (g_s c6.1 (g_t rfl (g_n (by decide) (g_s ne.1 (g_s c22.1 (g_n (n_le (by omega) (by unfold zB; omega) (by unfold zB; omega)) fin))))))
  · rw [if_neg q] at hR
    rw [hR, if_neg (by omega)] at e5
    rw [hR, e5]
    refine g_n (by decide) (g_s c6.1 (g_t ?_ (g_t rfl fin)))
    rfl
theorem l_301 (h : IS M σ v n hs) (hw : VS N w) (hN : N ≤ 1000000000) {F d X8 : Int} (hF : 0 ≤ F ∧ F < 4080) (hq : sQ F (w 2) ≠ 2) (hd : d = if sQ F (w 2) = 3 then -1 else sQ F (w 2)) (h8 : X8 = if sA w F ≤ w 8 then 0 else 1) (e2 : v 2 = sC F (w 2)) (e6 : v 6 = sN w F) (e5 : v 5 = if sT w (sN w F) (sP F (w 2)) = 0 then sP F (w 2) else w 5) (e9 : v 9 = w 9) :
    G2 (ok_L_isSampled_301 (zI (sT w (sN w F) (sP F (w 2)))) (zI F) (zI (b5 w)) (zI (w 6)) (zI X8) (zI (sC F (w 2))) (zI (sP F (w 2))) (zI d) (zI (w 2)) (zI (sC F (w 2))) σ) (f_L_isSampled_301 (zI (sT w (sN w F) (sP F (w 2)))) (zI F) (zI (b5 w)) (zI (w 6)) (zI X8) (zI (sC F (w 2))) (zI (sP F (w 2))) (zI d) (zI (w 2)) (zI (sC F (w 2))) σ) (PI M) := by
  have w2 := hw.2.2.1
  have w6 := hw.2.2.2.2.2.2.1
  have qb := sQ_b F (w 2)
  have cb := sC_b F (w 2)
  have tb := sT_b w (sN w F) (sP F (w 2))
  have bd : -1 ≤ d ∧ d ≤ 1 := by rw [hd]; split <;> omega
  have fin := l_378 h hw (sP_b (w := w 2) hF) rfl e5 e9
  have c7 := ct7 h
  have re := l_rest (σ := σ) (a := w 2 + d) (d := 64) (by omega) (by omega) (by omega)
  have re' : f_L_rest (zI (w 2 + d)) 64 σ = zI (sC F (w 2)) := by
    unfold sC
    rw [← hd]
    exact re.2
  have e4 : zI (sC F (w 2)) - zI (sC F (w 2)) / 4 * 4 = zI (F / 1020) := by
    have e := z_rem (a := sC F (w 2)) (b := 4) (by unfold zB; omega) (by omega) (by omega)
    rw [Int.tmod_eq_emod_of_nonneg cb.1] at e
    have e1 : sC F (w 2) % 4 = F / 1020 := by
      unfold sC sQ at *
      split <;> omega
    rw [e1] at e
    exact e
  have s369 : ¬ sT w (sN w F) (sP F (w 2)) = 3 → G2 (ok_L_isSampled_369 (zI (sT w (sN w F) (sP F (w 2)))) (zI (b5 w)) (zI (sP F (w 2))) 0 σ) (f_L_isSampled_369 (zI (sT w (sN w F) (sP F (w 2)))) (zI (b5 w)) (zI (sP F (w 2))) 0 σ) (PI M) := fun _ => by
    unfold ok_L_isSampled_369 f_L_isSampled_369 ok_L_isSampled_370 f_L_isSampled_370
    exact g_t rfl fin
  have sN0 : sA w F ≤ w 8 → sN w F = 0 := fun c => if_pos c
  have sN1 : ¬ sA w F ≤ w 8 → sN w F = w 6 + 1 := fun c => if_neg c
  have t3 : sT w (sN w F) (sP F (w 2)) = 3 ↔ ¬ sN w F < 3 := by
    unfold sT
    split
    · split
      · omega
      · split <;> omega
    · omega
  have s354 : G2 (ok_L_isSampled_341 (zI (sT w (sN w F) (sP F (w 2)))) (zI (b5 w)) (zI (w 6)) (zI X8) (zI (sP F (w 2))) (zI (sN w F)) (zI (sN w F)) σ) (f_L_isSampled_341 (zI (sT w (sN w F) (sP F (w 2)))) (zI (b5 w)) (zI (w 6)) (zI X8) (zI (sP F (w 2))) (zI (sN w F)) (zI (sN w F)) σ) (PI M) := by
    unfold ok_L_isSampled_341 f_L_isSampled_341
    refine g_t rfl ?_
    unfold ok_L_isSampled_354 f_L_isSampled_354
    by_cases q3 : sT w (sN w F) (sP F (w 2)) = 3
    · have q4 := t3.mp q3
      have qa : ¬ sA w F ≤ w 8 := fun c => q4 (by rw [sN0 c]; omega)
      have q6 := sN1 qa
      rw [if_neg qa] at h8
      refine g_t ((zq3 (by unfold zB; omega)).mpr q3) (g_n (by rw [h8]; decide) (g_n (n_le (b := 1) (by omega) (by unfold zB; omega) (by unfold zB; omega)) ?_))
      unfold ok_L_isSampled_370 f_L_isSampled_370
      exact g_t rfl fin
    · refine g_n (fun g => q3 ((zq3 (by unfold zB; omega)).mp g)) ?_
      by_cases qa : sA w F ≤ w 8
      · rw [if_pos qa] at h8
        exact g_t (by rw [h8]; rfl) (s369 q3)
      · rw [if_neg qa] at h8
        have q6 := sN1 qa
        have q7 : sN w F < 3 := by
          by_cases c : sN w F < 3
          · exact c
          · exact absurd (t3.mpr c) q3
        exact g_n (by rw [h8]; decide) (g_t (y_le (b := 1) (by omega) (by unfold zB; omega) (by unfold zB; omega)) (s369 q3))
  have e1020 : zI F / 1020 = zI (F / 1020) := z_1020 ⟨by omega, by omega⟩
  unfold ok_L_isSampled_301 f_L_isSampled_301
  rw [z_add, re', e4, e1020, c7.2, e6]
  refine g_s re.1 (g_t rfl (g_t rfl (g_s c7.1 ?_)))
  by_cases qa : sA w F ≤ w 8
  · rw [if_pos qa] at h8
    refine g_t (by rw [h8]; rfl) ?_
    have z : (0 : Int32) = zI (sN w F) := by rw [sN0 qa]; rfl
    rw [z]
    exact s354
  · rw [if_neg qa] at h8
    refine g_n (by rw [h8]; decide) ?_
    have z : zI (w 6) + 1 = zI (sN w F) := by
      rw [sN1 qa]
      exact z_add (w 6) 1
    rw [z]
    exact s354
theorem l_212 (h : IS M σ v n hs) (e2 : v 2 = w 2) (e5 : v 5 = w 5) (e6 : v 6 = w 6) : G2 (ok_L_isSampled_212 (zI (w 2)) (zI (b5 w)) (zI (w 6)) 1 σ) (f_L_isSampled_212 (zI (w 2)) (zI (b5 w)) (zI (w 6)) 1 σ) (PI M) := by
  unfold ok_L_isSampled_212 f_L_isSampled_212
  rw [(ct2 h).2, (ct6 h).2, (ct7 h).2, e2, e5, e6]
  exact g_n (by decide) (g_s (ct2 h).1 (g_t rfl (g_s (ct6 h).1 (g_t rfl (g_s (ct7 h).1 (g_t rfl (g_e ⟨σ, v, n, hs, rfl, h⟩)))))))
theorem l_200 (h : IS M σ v n hs) (hw : VS N w) (hN : N ≤ 1000000000) {F D X8 : Int} (hF : 0 ≤ F ∧ F < 4080) (h8 : X8 = if sA w F ≤ w 8 then 0 else 1) (ev : v = sV w F D) :
    G2 (ok_L_isSampled_195 (zI (sR w F D)) (zI F) (zI (w 2)) (zI (b5 w)) (zI (w 6)) (zI (sQ F (w 2))) (zI X8) σ) (f_L_isSampled_195 (zI (sR w F D)) (zI F) (zI (w 2)) (zI (b5 w)) (zI (w 6)) (zI (sQ F (w 2))) (zI X8) σ) (PI M) := by
  have qb := sQ_b F (w 2)
  have rb := sR_b w F D
  have ri := sR_i (v := w) (F := F) (D := D)
  have cb := sC_b F (w 2)
  unfold ok_L_isSampled_195 f_L_isSampled_195 ok_L_isSampled_200 f_L_isSampled_200
  by_cases q : D ≤ w 7 ∧ sQ F (w 2) ≠ 2
  · have qr := ri.mp q
    have e : sR w F D = sT w (sN w F) (sP F (w 2)) := by
      unfold sR
      rw [if_pos q.1, if_neg q.2]
    have e2 : v 2 = sC F (w 2) := by rw [ev]; unfold sV; rw [if_pos q]; split <;> rfl
    have e6 : v 6 = sN w F := by rw [ev]; unfold sV; rw [if_pos q]; split <;> rfl
    have e9 : v 9 = w 9 := by rw [ev]; unfold sV; rw [if_pos q]; split <;> rfl
    have e5 : v 5 = if sT w (sN w F) (sP F (w 2)) = 0 then sP F (w 2) else w 5 := by
      rw [ev]; unfold sV; rw [if_pos q, e]; split <;> rfl
    have eP : ((zI (sC F (w 2)) / 4) * 4080) + zI F = zI (sP F (w 2)) := by
      have d4 := z_divn (a := sC F (w 2)) (b := 4) cb.1 (by omega) (by omega) (by omega)
      unfold sP
      rw [show (4 : Int32) = zI 4 from rfl, d4, show (4080 : Int32) = zI 4080 from rfl, z_mul, z_add]
    have c2 := ct2 h
    rw [c2.2, e2, eP]
    refine g_n (fun g => qr (Or.inl ((zq1 (by unfold zB; omega)).mp g))) (g_n (fun g => qr (Or.inr ((zq2 (by unfold zB; omega)).mp g))) (g_s c2.1 (g_n (by decide) (g_n (fun g => q.2 ((zq2 (by unfold zB; omega)).mp g)) ?_))))
    rw [e]
    by_cases q3 : sQ F (w 2) = 3
    · have l := l_301 h hw hN (d := -1) hF q.2 (by rw [if_pos q3]) h8 e2 e6 e5 e9
      rw [← z_m1] at l
      exact g_t ((zq3 (by unfold zB; omega)).mpr q3) l
    · exact g_n (fun g => q3 ((zq3 (by unfold zB; omega)).mp g)) (l_301 h hw hN hF q.2 (by rw [if_neg q3]) h8 e2 e6 e5 e9)
  · have e : v = w := by rw [ev]; unfold sV; rw [if_neg q]
    have r := l_212 (w := w) h (by rw [e]) (by rw [e]) (by rw [e])
    by_cases q1 : sR w F D = 1
    · exact g_t ((zq1 (by unfold zB; omega)).mpr q1) r
    · have q2 : sR w F D = 2 := by
        by_cases c : sR w F D = 2
        · exact c
        · exact absurd (ri.mpr (fun g => g.elim q1 c)) q
      exact g_n (fun g => q1 ((zq1 (by unfold zB; omega)).mp g)) (g_t ((zq2 (by unfold zB; omega)).mpr q2) r)
theorem l_117 (h : IS N σ v n hs) (hN0 : 0 ≤ N) (hN : N ≤ 1000000000) (q : ¬ v 1 = 0) {X8 : Int} (h8 : X8 = if sA v (fL v (aAng v)) ≤ v 8 then 0 else 1) :
    G2 (ok_L_isSampled_117 (zI (sR v (fL v (aAng v)) (fD v (aAng v)))) (zI (fL v (aAng v))) (zI (fD v (aAng v))) (zI (v 2)) (zI (b5 v)) (zI (v 6)) (zI (sQ (fL v (aAng v)) (v 2))) (zI X8) σ) (f_L_isSampled_117 (zI (sR v (fL v (aAng v)) (fD v (aAng v)))) (zI (fL v (aAng v))) (zI (fD v (aAng v))) (zI (v 2)) (zI (b5 v)) (zI (v 6)) (zI (sQ (fL v (aAng v)) (v 2))) (zI X8) σ) (PI (N + 1)) := by
  have hv := h.2.1
  have v7 := hv.2.2.2.2.2.2.2.1
  obtain ⟨k1, τ, k2, k3⟩ := k_sample h hN0 hN q
  obtain ⟨F, hF⟩ : ∃ F, F = fL v (aAng v) := ⟨_, rfl⟩
  obtain ⟨D, hD⟩ : ∃ D, D = fD v (aAng v) := ⟨_, rfl⟩
  have bF : 0 ≤ F ∧ F < 4080 := by rw [hF]; exact fL_b _ _
  have bD : 0 ≤ D ∧ D ≤ 136 := by rw [hD]; exact fD_b _ _
  rw [← hF, ← hD] at k2 k3
  rw [← hF] at h8
  rw [← hF, ← hD]
  have qb := sQ_b F (v 2)
  have rb := sR_b v F D
  have fin := l_200 k3 hv hN bF h8 rfl
  have c6 := ct6 k3
  have c20 := ct20 k3
  have e7 : sV v F D 7 = v 7 := by
    unfold sV
    split
    · split <;> rfl
    · rfl
  rw [e7] at c20
  have s153 : ∀ y : Int32, G2 (ok_L_isSampled_153 (zI (sR v F D)) (zI F) (zI D) (zI (v 2)) (zI (b5 v)) (zI (v 6)) (zI (sQ F (v 2))) (zI X8) y y τ) (f_L_isSampled_153 (zI (sR v F D)) (zI F) (zI D) (zI (v 2)) (zI (b5 v)) (zI (v 6)) (zI (sQ F (v 2))) (zI X8) y y τ) (PI (N + 1)) := fun y => by
    have s181 : ∀ y : Int32, G2 (ok_L_isSampled_181 (zI (sR v F D)) (zI F) (zI (v 2)) (zI (b5 v)) (zI (v 6)) (zI (sQ F (v 2))) (zI X8) y y τ) (f_L_isSampled_181 (zI (sR v F D)) (zI F) (zI (v 2)) (zI (b5 v)) (zI (v 6)) (zI (sQ F (v 2))) (zI X8) y y τ) (PI (N + 1)) := fun y => by
      unfold ok_L_isSampled_181 f_L_isSampled_181
      refine g_t rfl ?_
      by_cases q2 : sR v F D = 2
      · have e2 : sQ F (v 2) = 2 := by
          unfold sR at q2
          by_cases c : D ≤ v 7
          · rw [if_pos c] at q2
            by_cases c2 : sQ F (v 2) = 2
            · exact c2
            · rw [if_neg c2] at q2
              have := sT_b v (sN v F) (sP F (v 2))
              omega
          · rw [if_neg c] at q2
            omega
        exact g_t ((zq2 (by unfold zB; omega)).mpr q2) (g_t ((zq2 (by unfold zB; omega)).mpr e2) fin)
      · exact g_n (fun g => q2 ((zq2 (by unfold zB; omega)).mp g)) fin
    unfold ok_L_isSampled_153 f_L_isSampled_153 ok_L_isSampled_166 f_L_isSampled_166
    rw [c20.2]
    refine g_t rfl ?_
    have e1 : sR v F D = 1 ↔ ¬ D ≤ v 7 := by
      unfold sR
      by_cases c : D ≤ v 7
      · rw [if_pos c]
        have := sT_b v (sN v F) (sP F (v 2))
        split <;> omega
      · rw [if_neg c]
        omega
    by_cases q1 : D ≤ v 7
    · exact g_n (fun g => e1.mp ((zq1 (by unfold zB; omega)).mp g) q1) (g_s c20.1 (g_t (y_le q1 (by unfold zB; omega) (by unfold zB; omega)) (s181 0)))
    · exact g_t ((zq1 (by unfold zB; omega)).mpr (e1.mpr q1)) (g_s c20.1 (g_n (n_le (by omega) (by unfold zB; omega) (by unfold zB; omega)) (s181 1)))
  unfold ok_L_isSampled_117 f_L_isSampled_117
  rw [k2]
  refine g_s k1 ?_
  dsimp only
  rw [c6.2]
  refine g_n (n_lt (b := 0) (by omega) (by unfold zB; omega) (by unfold zB; omega)) (g_n (n_le (a := 5) (by omega) (by unfold zB; omega) (by unfold zB; omega)) ?_)
  by_cases q0 : sR v F D = 0
  · refine g_t ((zq0 (by unfold zB; omega)).mpr q0) (g_s c6.1 ?_)
    have qq : D ≤ v 7 ∧ sQ F (v 2) ≠ 2 := sR_i.mpr (by omega)
    have pb := sP_b (F := F) (w := v 2) bF
    have e5 : sV v F D 5 = sP F (v 2) := by unfold sV; rw [if_pos qq, if_pos q0]; rfl
    have ez : sZ v F D = sP F (v 2) := if_pos q0
    rw [ez, e5, if_neg (by omega)]
    exact s153 _
  · refine g_n (fun g => q0 ((zq0 (by unfold zB; omega)).mp g)) ?_
    have ez : sZ v F D = 100000 + sR v F D := if_neg q0
    have ea : 100000 + zI (sR v F D) = zI (100000 + sR v F D) := z_add 100000 _
    rw [ez, ea]
    exact s153 _
theorem l_sampled (h : IS N σ v n hs) (hN0 : 0 ≤ N) (hN : N ≤ 1000000000) : G2 (ok_L_isSampled σ) (f_L_isSampled σ) (PI (N + 1)) := by
  have hv := h.2.1
  have v1 := hv.2.1
  have v2 := hv.2.2.1
  have v8 := hv.2.2.2.2.2.2.2.2.1
  unfold ok_L_isSampled f_L_isSampled
  by_cases q : v 1 = 0
  · have a := k_reason0 h q
    have b := k_sample0 h q
    have c3 := ct3 h
    rw [a.2]
    refine g_s a.1 ?_
    dsimp only
    rw [c3.2, b.2, q]
    exact g_s c3.1 (g_t rfl (g_t rfl (g_s b.1 (g_t rfl (g_e ⟨σ, v, n, hs, rfl, h.up (by omega)⟩)))))
  · obtain ⟨k1, τ1, e1, h1, m1⟩ := k_reason h hN q
    obtain ⟨k2, τ2, e2, h2, m2⟩ := k_look h1 (P := 0) (by omega)
    have e2' : f_X5_look 0 τ1 = (zI (fL v (aAng v)), τ2) := e2
    obtain ⟨k3, τ3, e3, h3, m3⟩ := k_look h2 (P := 1) (by omega)
    have e3' : f_X5_look 1 τ2 = (zI (fD v (aAng v)), τ3) := e3
    have bF := fL_b v (aAng v)
    have bc := aAng_b v
    have cob : 0 ≤ aCo v ∧ aCo v < 64 := by unfold aCo; omega
    have c3 := ct3 h1
    have c2 := ct2 h3
    have c6 := ct6 h3
    have c7 := ct7 h3
    have c8 := ct8 h3
    have c21 := ct21 h3
    have re := l_rest (σ := τ3) (a := fL v (aAng v) / 1020 - v 2) (d := 4) (by omega) (by omega) (by omega)
    have re' : f_L_rest (zI (fL v (aAng v) / 1020 - v 2)) 4 τ3 = zI (sQ (fL v (aAng v)) (v 2)) := re.2
    have ne := l_nearD (σ := τ3) (a := aCo v) (b := fL v (aAng v) * 64 / 4080) (d := 64) (by omega) (by omega) (by omega)
    have ne' : f_L_near (zI (aCo v - fL v (aAng v) * 64 / 4080)) 64 τ3 = zI (sA v (fL v (aAng v))) := ne.2
    have sab : 0 ≤ sA v (fL v (aAng v)) ∧ sA v (fL v (aAng v)) < 64 := dist_b (by omega)
    rw [e1]
    refine g_s k1 ?_
    dsimp only
    rw [c3.2]
    refine g_s c3.1 (g_n (n_eq (b := 0) q (by unfold zB; omega) (by unfold zB; omega)) ?_)
    rw [e2']
    refine g_s k2 ?_
    dsimp only
    rw [e3']
    refine g_s k3 ?_
    dsimp only
    rw [c2.2, c6.2, c7.2, c8.2, c21.2, z_1020 ⟨by omega, by omega⟩, z_sub, re', co_64 bF, z_sub, ne']
    refine g_s c2.1 (g_s c6.1 (g_s c7.1 (g_s re.1 (g_s c8.1 (g_s ne.1 (g_s c21.1 ?_))))))
    by_cases qa : sA v (fL v (aAng v)) ≤ v 8
    · exact g_t (y_le qa (by unfold zB; omega) (by unfold zB; omega)) (l_117 h3 hN0 hN q (X8 := 0) (by rw [if_pos qa]))
    · exact g_n (n_le (by omega) (by unfold zB; omega) (by unfold zB; omega)) (l_117 h3 hN0 hN q (X8 := 1) (by rw [if_neg qa]))
end K7
