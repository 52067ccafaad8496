set_option linter.all false
def sQ (F w : Int) : Int := (F / 1020 - w) % 4
def sC (F w : Int) : Int := (w + (if sQ F w = 3 then -1 else sQ F w)) % 64
def sP (F w : Int) : Int := sC F w / 4 * 4080 + F
noncomputable def sA (v : Nat → Int) (F : Int) : Int := dist 64 (aCo v) (F * 64 / 4080)
noncomputable def sN (v : Nat → Int) (F : Int) : Int := if sA v F ≤ v 8 then 0 else v 6 + 1
noncomputable def sT (v : Nat → Int) (Y P : Int) : Int := if Y < 3 then (if v 5 = -1 then 0 else if dist 65280 (v 5) P ≤ v 9 then 0 else 4) else 3
noncomputable def sR (v : Nat → Int) (F D : Int) : Int := if D ≤ v 7 then (if sQ F (v 2) = 2 then 2 else sT v (sN v F) (sP F (v 2))) else 1
theorem sQ_b (F w : Int) : 0 ≤ sQ F w ∧ sQ F w < 4 := by unfold sQ; omega
theorem sC_b (F w : Int) : 0 ≤ sC F w ∧ sC F w < 64 := by unfold sC; omega
theorem sP_b {F w : Int} (h : 0 ≤ F ∧ F < 4080) : 0 ≤ sP F w ∧ sP F w < 65280 := by have := sC_b F w; unfold sP; omega
theorem sT_b (v : Nat → Int) (Y P : Int) : sT v Y P = 0 ∨ sT v Y P = 3 ∨ sT v Y P = 4 := by
  unfold sT
  split
  · split
    · omega
    · split <;> omega
  · omega
theorem dist_comm (L a b : Int) : dist L a b = dist L b a := by
  unfold dist
  split <;> split <;> omega
theorem at2 {σ : Sg} {v : Nat → Int} {k : Nat} (h : NC σ v) (hk : k < 4) : f_X5_at 2 (zI k) σ = zI (v (7 + k)) := by
  rw [at_in (show k < o_len 2 from hk) (by decide)]
  exact h.set hk
theorem NC.hi {σ σ' : Sg} {v : Nat → Int} (h : NC σ v) (he : ∀ c, c < 29 → σ' c = σ c) : NC σ' v := h.same (fun c a b => he c (by omega))
theorem j147 {σ : Sg} {v : Nat → Int} {N Y P : Int} (h : NC σ v) (hv : VS N v) (hP : σ 29 3 = zI P) (hPb : 0 ≤ P ∧ P < 65280) (hY : zB Y) : ok_X4_firstRefusal_147 (zI Y) σ ∧ f_X4_firstRefusal_147 (zI Y) σ = (zI (sT v Y P), pu σ 29 2 (zI Y)) := by
  have v5 := hv.2.2.2.2.2.1
  have v9 := hv.2.2.2.2.2.2.2.2.2.1
  have h1 : NC (pu σ 29 2 (zI Y)) v := h.hi (fun c hc => pu_ne (by omega))
  have a1 : pu σ 29 2 (zI Y) 29 2 = zI Y := pu_at
  have a3 : pu σ 29 2 (zI Y) 29 3 = zI P := by rw [pu_un (by omega)]; exact hP
  have a9 : f_X5_at 2 2 (pu σ 29 2 (zI Y)) = zI (v 9) := at2 (k := 2) h1 (by omega)
  have e3 : (zI Y < 3) ↔ Y < 3 := by rw [z_n]; exact z_lt hY (by unfold zB; omega)
  have e5 : (zI (v 5) = -1) ↔ v 5 = -1 := by rw [z_m1]; exact z_eq (by unfold zB; omega) (by unfold zB; omega)
  have bd := dist_b (L := 65280) (a := v 5) (b := P) (by omega)
  have d : f_X5_distance (zI (v 5)) (zI P) 65280 (pu σ 29 2 (zI Y)) = zI (dist 65280 (v 5) P) := dis_C (L := 65280) (by unfold zB; omega) (by unfold zB; omega) (by omega) (by omega)
  have ed : (zI (dist 65280 (v 5) P) ≤ zI (v 9)) ↔ dist 65280 (v 5) P ≤ v 9 := z_le (by unfold zB; omega) (by unfold zB; omega)
  constructor
  · exact ⟨fun _ => ⟨fun _ => trivial, fun _ => ⟨dis_ok, at_ok (by decide), ⟨fun _ => trivial, fun _ => trivial⟩⟩⟩, fun _ => trivial⟩
  · unfold f_X4_firstRefusal_147
    dsimp only
    rw [a1, h1.s5, a3, d, a9]
    unfold sT
    by_cases q : Y < 3
    · rw [itp (e3.mpr q), if_pos q]
      by_cases q5 : v 5 = -1
      · rw [itp (e5.mpr q5), if_pos q5]; rfl
      · rw [itn (fun c => q5 (e5.mp c)), if_neg q5]
        by_cases qd : dist 65280 (v 5) P ≤ v 9
        · rw [itp (ed.mpr qd), if_pos qd]; rfl
        · rw [itn (fun c => qd (ed.mp c)), if_neg qd]; rfl
    · rw [itn (fun c => q (e3.mp c)), if_neg q]; rfl
theorem j52 {σ : Sg} {v : Nat → Int} {N F d : Int} (h : NC σ v) (hv : VS N v) (hN : N ≤ 1000000000) (hF : σ 28 1 = zI F) (hFb : 0 ≤ F ∧ F < 4080) (hd : d = (if sQ F (v 2) = 3 then -1 else sQ F (v 2))) : ok_X4_firstRefusal_52 (zI d) σ ∧ f_X4_firstRefusal_52 (zI d) σ = (zI (sT v (sN v F) (sP F (v 2))), pu (pu (pu σ 29 1 (zI (sC F (v 2)))) 29 3 (zI (sP F (v 2)))) 29 2 (zI (sN v F))) := by
  have v2 := hv.2.2.1
  have v6 := hv.2.2.2.2.2.2.1
  have v8 := hv.2.2.2.2.2.2.2.2.1
  have bq := sQ_b F (v 2)
  have bc := sC_b F (v 2)
  have bp := sP_b (w := v 2) hFb
  have hd2 : -1 ≤ d ∧ d ≤ 3 := by rw [hd]; split <;> omega
  have er : f_X5_remainder (σ 1 1 + zI d) 64 σ = zI (sC F (v 2)) := by
    rw [h.s1, z_add]
    have e : f_X5_remainder (zI (v 2 + d)) 64 σ = zI ((v 2 + d) % 64) := rem_C (d := 64) (by unfold zB; omega) (by omega) (by omega)
    rw [e, hd]
    rfl
  obtain ⟨w1, hw1⟩ : ∃ w1 : Sg, w1 = pu σ 29 1 (zI (sC F (v 2))) := ⟨_, rfl⟩
  have p1 : w1 29 1 = zI (sC F (v 2)) := by rw [hw1]; exact pu_at
  have p2 : w1 28 1 = zI F := by rw [hw1, pu_ne (by omega)]; exact hF
  have ep : (w1 29 1 / 4) * 4080 + w1 28 1 = zI (sP F (v 2)) := by
    have e4 : zI (sC F (v 2)) / 4 = zI (sC F (v 2) / 4) := z_divn (b := 4) bc.1 (by omega) (by omega) (by omega)
    have e5 : zI (sC F (v 2) / 4) * 4080 = zI (sC F (v 2) / 4 * 4080) := z_mul _ 4080
    rw [p1, p2, e4, e5, z_add]
    rfl
  obtain ⟨w2, hw2⟩ : ∃ w2 : Sg, w2 = pu w1 29 3 (zI (sP F (v 2))) := ⟨_, rfl⟩
  have hC2 : NC w2 v := h.hi (fun c hc => by rw [hw2, hw1, pu_ne (by omega), pu_ne (by omega)])
  have g3 : w2 29 3 = zI (sP F (v 2)) := by rw [hw2]; exact pu_at
  have g1 : w2 28 1 = zI F := by rw [hw2, pu_ne (by omega)]; exact p2
  have co := co_C hC2 hv
  have bco : 0 ≤ aCo v ∧ aCo v < 64 := by unfold aCo; omega
  have e64 : zI F * 64 / 4080 = zI (F * 64 / 4080) := co_64 hFb
  have ed : f_X5_distance (zI (aCo v)) (zI (F * 64 / 4080)) 64 w2 = zI (sA v F) := dis_C (L := 64) (by unfold zB; omega) (by unfold zB; omega) (by omega) (by omega)
  have bd : 0 ≤ sA v F ∧ sA v F < 64 := dist_b (by omega)
  have a8 : f_X5_at 2 1 w2 = zI (v 8) := at2 (k := 1) hC2 (by omega)
  have e8 : (zI (sA v F) ≤ zI (v 8)) ↔ sA v F ≤ v 8 := z_le (by unfold zB; omega) (by unfold zB; omega)
  have z6 : w2 1 6 + 1 = zI (v 6 + 1) := by rw [hC2.s6]; exact z_add _ 1
  have J0 := j147 (Y := 0) hC2 hv g3 bp (by unfold zB; omega)
  have J1 := j147 (Y := v 6 + 1) hC2 hv g3 bp (by unfold zB; omega)
  have eF : f_X4_firstRefusal_52 (zI d) σ = o_ite (zI (sA v F) ≤ zI (v 8)) (f_X4_firstRefusal_129 0 w2) (f_X4_firstRefusal_129 1 w2) := by
    unfold f_X4_firstRefusal_52
    dsimp only
    rw [er, ← hw1, ep, ← hw2, co.2, g1, e64, ed, a8]
  constructor
  · unfold ok_X4_firstRefusal_52
    dsimp only
    rw [er, ← hw1, ep, ← hw2]
    refine ⟨rem_ok, co.1, dis_ok, at_ok (by decide), ⟨fun _ => ⟨fun _ => J0.1, fun c => absurd rfl c⟩, fun _ => ⟨fun c => absurd c (by decide), fun _ => ?_⟩⟩⟩
    rw [z6]
    exact J1.1
  · rw [eF, ← hw1, ← hw2]
    unfold sN f_X4_firstRefusal_129
    by_cases q : sA v F ≤ v 8
    · rw [itp (e8.mpr q), if_pos q, itp rfl]
      exact J0.2
    · rw [itn (fun c => q (e8.mp c)), if_neg q, itn (by decide), z6]
      exact J1.2
theorem judge_C {σ : Sg} {v : Nat → Int} {N F D : Int} (h : NC σ v) (hv : VS N v) (hN : N ≤ 1000000000) (hF : σ 28 1 = zI F) (hFb : 0 ≤ F ∧ F < 4080) (hD : σ 28 2 = zI D) (hDb : 0 ≤ D ∧ D ≤ 136) :
    ok_X4_judge σ ∧ ∀ σ' : Sg, σ' = f_X4_judge σ → (∀ c, c ≠ 29 → σ' c = σ c) ∧ σ' 29 0 = zI (sR v F D) ∧ ((¬ (D ≤ v 7 ∧ sQ F (v 2) ≠ 2) → σ' 29 1 = zI (v 2) ∧ σ' 29 2 = zI (v 6)) ∧ (D ≤ v 7 ∧ sQ F (v 2) ≠ 2 → σ' 29 1 = zI (sC F (v 2)) ∧ σ' 29 2 = zI (sN v F) ∧ σ' 29 3 = zI (sP F (v 2)))) := by
  have v2 := hv.2.2.1
  have v7 := hv.2.2.2.2.2.2.2.1
  obtain ⟨w, hw⟩ : ∃ w : Sg, w = pu (pu σ 29 1 (σ 1 1)) 29 2 (pu σ 29 1 (σ 1 1) 1 6) := ⟨_, rfl⟩
  have hwf : ∀ c, c ≠ 29 → w c = σ c := fun c hc => by rw [hw, pu_ne hc, pu_ne hc]
  have hC : NC w v := h.hi (fun c hc => hwf c (by omega))
  have w1 : w 29 1 = zI (v 2) := by rw [hw, pu_un (by omega), pu_at, h.s1]
  have w2 : w 29 2 = zI (v 6) := by rw [hw, pu_at, pu_ne (by omega), h.s6]
  have hF' : w 28 1 = zI F := by rw [hwf 28 (by omega)]; exact hF
  have hD' : w 28 2 = zI D := by rw [hwf 28 (by omega)]; exact hD
  have a7 : f_X5_at 2 0 w = zI (v 7) := at2 (k := 0) hC (by omega)
  have e7 : (zI D ≤ zI (v 7)) ↔ D ≤ v 7 := z_le (by unfold zB; omega) (by unfold zB; omega)
  have bq := sQ_b F (v 2)
  have eq : f_X5_remainder (zI F / 1020 - w 1 1) 4 w = zI (sQ F (v 2)) := by
    rw [hC.s1, z_1020 ⟨hFb.1, by omega⟩, z_sub]
    exact rem_C (d := 4) (by unfold zB; omega) (by omega) (by omega)
  have q2 : (zI (sQ F (v 2)) = 2) ↔ sQ F (v 2) = 2 := zq2 (by unfold zB; omega)
  have q3 : (zI (sQ F (v 2)) = 3) ↔ sQ F (v 2) = 3 := zq3 (by unfold zB; omega)
  have J := fun (d : Int) (hd : d = (if sQ F (v 2) = 3 then -1 else sQ F (v 2))) => j52 (d := d) hC hv hN hF' hFb hd
  have eF : f_X4_firstRefusal w = o_ite (zI D ≤ zI (v 7)) (o_ite (zI (sQ F (v 2)) = 2) (2, w) (o_ite (zI (sQ F (v 2)) = 3) (f_X4_firstRefusal_52 (-1) w) (f_X4_firstRefusal_52 (zI (sQ F (v 2))) w))) (1, w) := by
    unfold f_X4_firstRefusal
    dsimp only
    rw [hD', a7, hF', eq]
  have eR : f_X4_firstRefusal w = (zI (sR v F D), if D ≤ v 7 ∧ sQ F (v 2) ≠ 2 then pu (pu (pu w 29 1 (zI (sC F (v 2)))) 29 3 (zI (sP F (v 2)))) 29 2 (zI (sN v F)) else w) := by
    rw [eF]
    unfold sR
    by_cases a : D ≤ v 7
    · rw [itp (e7.mpr a), if_pos a]
      by_cases b : sQ F (v 2) = 2
      · rw [itp (q2.mpr b), if_pos b, if_neg (fun c => c.2 b)]; rfl
      · rw [itn (fun c => b (q2.mp c)), if_neg b, if_pos ⟨a, b⟩]
        by_cases c : sQ F (v 2) = 3
        · rw [itp (q3.mpr c)]
          have Jm := J (-1) (by rw [if_pos c])
          rw [← z_m1] at Jm
          exact Jm.2
        · rw [itn (fun d => c (q3.mp d))]
          exact (J _ (by rw [if_neg c])).2
    · rw [itn (fun c => a (e7.mp c)), if_neg a, if_neg (fun c => a c.1)]; rfl
  constructor
  · refine ⟨?_, trivial⟩
    rw [← hw]
    unfold ok_X4_firstRefusal
    dsimp only
    rw [hF', eq]
    refine ⟨at_ok (by decide), ⟨fun _ => ⟨rem_ok, ⟨fun _ => trivial, fun _ => ⟨fun c => ?_, fun c => ?_⟩⟩⟩, fun _ => trivial⟩⟩
    · have Jm := J (-1) (by rw [if_pos (q3.mp c)])
      rw [← z_m1] at Jm
      exact Jm.1
    · exact (J _ (by rw [if_neg (fun d => c (q3.mpr d))])).1
  · intro σ' e
    have e' : σ' = pu (f_X4_firstRefusal w).2 29 0 (f_X4_firstRefusal w).1 := by
      rw [e, hw]
      rfl
    rw [eR] at e'
    dsimp only at e'
    have fr : ∀ c, c ≠ 29 → (if D ≤ v 7 ∧ sQ F (v 2) ≠ 2 then pu (pu (pu w 29 1 (zI (sC F (v 2)))) 29 3 (zI (sP F (v 2)))) 29 2 (zI (sN v F)) else w) c = σ c := fun c hc => by
      split
      · rw [pu_ne hc, pu_ne hc, pu_ne hc, hwf c hc]
      · exact hwf c hc
    refine ⟨fun c hc => by rw [e', pu_ne hc, fr c hc], by rw [e', pu_at], fun g => ?_, fun g => ?_⟩
    · rw [if_neg g] at e'
      have r1 : σ' 29 1 = zI (v 2) := by rw [e', pu_un (by omega)]; exact w1
      have r2 : σ' 29 2 = zI (v 6) := by rw [e', pu_un (by omega)]; exact w2
      exact ⟨r1, r2⟩
    · rw [if_pos g] at e'
      have r1 : σ' 29 1 = zI (sC F (v 2)) := by rw [e', pu_un (by omega), pu_un (by omega), pu_un (by omega), pu_at]
      have r2 : σ' 29 2 = zI (sN v F) := by rw [e', pu_un (by omega), pu_at]
      have r3 : σ' 29 3 = zI (sP F (v 2)) := by rw [e', pu_un (by omega), pu_un (by omega), pu_at]
      exact ⟨r1, r2, r3⟩

