set_option linter.all false
theorem fit_M {σ : Sg} {F w : Int} (hF : σ 34 5 = zI F) (hFb : 0 ≤ F ∧ F < 4080) (h2 : σ 35 2 = zI w) (hw : 0 ≤ w ∧ w < 64) : ok_X6_fitting σ ∧ f_X6_fitting σ = zI (if sQ F w = 2 then -1 else sC F w) := by
  have bq := sQ_b F w
  have eq : f_X6_rest (σ 34 5 / 1020 - σ 35 2) 4 σ = zI (sQ F w) := by
    rw [hF, h2, z_1020 ⟨hFb.1, by omega⟩, z_sub]
    exact rest_M (d := 4) (by unfold zB; omega) (by omega) (by omega)
  have q2 : (zI (sQ F w) = 2) ↔ sQ F w = 2 := zq2 (by unfold zB; omega)
  have q3 : (zI (sQ F w) = 3) ↔ sQ F w = 3 := zq3 (by unfold zB; omega)
  have r := fun (d : Int) (hd : -1 ≤ d ∧ d ≤ 3) => show f_X6_rest (zI w + zI d) 64 σ = zI ((w + d) % 64) from by
    rw [z_add]
    exact rest_M (d := 64) (by unfold zB; omega) (by omega) (by omega)
  have r1 := r (-1) (by omega)
  rw [← z_m1] at r1
  have r2 := r (sQ F w) (by omega)
  have n4 : ¬ ((4 : Int32) = 0) := by decide
  have n64 : ¬ ((64 : Int32) = 0) := by decide
  constructor
  · exact ⟨rest_ok n4, ⟨fun _ => trivial, fun _ => ⟨fun _ => ⟨rest_ok n64, trivial⟩, fun _ => ⟨rest_ok n64, trivial⟩⟩⟩⟩
  · unfold f_X6_fitting f_X6_fitting_45
    rw [eq, h2, r1, r2]
    unfold sC
    by_cases a : sQ F w = 2
    · rw [itp (q2.mpr a), if_pos a]; rfl
    · rw [itn (fun c => a (q2.mp c)), if_neg a]
      by_cases b : sQ F w = 3
      · rw [itp (q3.mpr b), if_pos b]
      · rw [itn (fun c => b (q3.mp c)), if_neg b]
theorem ap_M {σ : Sg} {v : Nat → Int} {N F : Int} (h : NM σ v) (hv : VS N v) (hF : σ 34 5 = zI F) (hFb : 0 ≤ F ∧ F < 4080) : ok_X6_isCoarseApart σ ∧ ((f_X6_isCoarseApart σ = 0) ↔ sA v F ≤ v 8) := by
  have v8 := hv.2.2.2.2.2.2.2.2.1
  have co := co_M h hv
  have bco : 0 ≤ aCo v ∧ aCo v < 64 := by unfold aCo; omega
  have e64 : zI F * 64 / 4080 = zI (F * 64 / 4080) := co_64 hFb
  have ed : f_X6_off (zI (aCo v)) (zI (F * 64 / 4080)) 64 σ = zI (sA v F) := off_M (L := 64) (by unfold zB; omega) (by omega) (by omega)
  have bd : 0 ≤ sA v F ∧ sA v F < 64 := dist_b (by omega)
  have e8 : (zI (sA v F) ≤ zI (v 8)) ↔ sA v F ≤ v 8 := z_le (by unfold zB; omega) (by unfold zB; omega)
  refine ⟨⟨co.1, off_ok (by decide), ⟨fun _ => trivial, fun _ => trivial⟩⟩, ?_⟩
  unfold f_X6_isCoarseApart
  dsimp only
  rw [co.2, hF, e64, ed, h 8 (by omega)]
  by_cases q : sA v F ≤ v 8
  · rw [itp (e8.mpr q)]
    exact ⟨fun _ => q, fun _ => rfl⟩
  · rw [itn (fun c => q (e8.mp c))]
    exact ⟨fun c => absurd c (by decide), fun c => absurd c q⟩
theorem pl_M {σ : Sg} {F w : Int} (hF : σ 34 5 = zI F) (hFb : 0 ≤ F ∧ F < 4080) (h2 : σ 35 2 = zI w) (hw : 0 ≤ w ∧ w < 64) (hq : sQ F w ≠ 2) : ok_X6_placeFound σ ∧ f_X6_placeFound σ = zI (sP F w) := by
  have ft := fit_M hF hFb h2 hw
  have bc := sC_b F w
  refine ⟨⟨ft.1, trivial⟩, ?_⟩
  unfold f_X6_placeFound
  have e4 : zI (sC F w) / 4 = zI (sC F w / 4) := z_divn (b := 4) bc.1 (by omega) (by omega) (by omega)
  have e5 : zI (sC F w / 4) * 4080 = zI (sC F w / 4 * 4080) := z_mul _ 4080
  rw [ft.2, if_neg hq, hF, e4, e5, z_add]
  rfl
theorem why_M {σ : Sg} {v : Nat → Int} {N F D : Int} (h : NM σ v) (hv : VS N v) (hF : σ 34 5 = zI F) (hFb : 0 ≤ F ∧ F < 4080) (hD : σ 34 6 = zI D) (hDb : 0 ≤ D ∧ D ≤ 136) (hN : N ≤ 1000000000) : ok_X6_why σ ∧ f_X6_why σ = zI (sR v F D) := by
  have v2 := hv.2.2.1
  have v5 := hv.2.2.2.2.2.1
  have v6 := hv.2.2.2.2.2.2.1
  have v7 := hv.2.2.2.2.2.2.2.1
  have v9 := hv.2.2.2.2.2.2.2.2.2.1
  have h2 : σ 35 2 = zI (v 2) := h 2 (by omega)
  have ft := fit_M hF hFb h2 v2
  have ap := ap_M h hv hF hFb
  have bc := sC_b F (v 2)
  have bp := sP_b (w := v 2) hFb
  have e7 : (zI D ≤ zI (v 7)) ↔ D ≤ v 7 := z_le (by unfold zB; omega) (by unfold zB; omega)
  have ef : (zI (if sQ F (v 2) = 2 then -1 else sC F (v 2)) = -1) ↔ sQ F (v 2) = 2 := by
    rw [z_m1, z_eq (by unfold zB; split <;> omega) (by unfold zB; omega)]
    split <;> omega
  have e5 : (zI (v 5) = -1) ↔ v 5 = -1 := by rw [z_m1]; exact z_eq (by unfold zB; omega) (by unfold zB; omega)
  have e6 : (zI (v 6) < 2) ↔ v 6 < 2 := by rw [z_n]; exact z_lt (by unfold zB; omega) (by unfold zB; omega)
  have W46 : sQ F (v 2) ≠ 2 → ok_X6_why_46 σ ∧ f_X6_why_46 σ = zI (if v 5 = -1 then 0 else if dist 65280 (v 5) (sP F (v 2)) ≤ v 9 then 0 else 4) := fun hq => by
    have pl := pl_M hF hFb h2 v2 hq
    have bd := dist_b (L := 65280) (a := v 5) (b := sP F (v 2)) (by omega)
    have ed : f_X6_off (zI (sP F (v 2))) (zI (v 5)) 65280 σ = zI (dist 65280 (v 5) (sP F (v 2))) := by
      rw [dist_comm]
      exact off_M (L := 65280) (by unfold zB; omega) (by omega) (by omega)
    have e9 : (zI (dist 65280 (v 5) (sP F (v 2))) ≤ zI (v 9)) ↔ dist 65280 (v 5) (sP F (v 2)) ≤ v 9 := z_le (by unfold zB; omega) (by unfold zB; omega)
    have n65 : ¬ ((65280 : Int32) = 0) := by decide
    refine ⟨⟨fun _ => trivial, fun _ => ⟨pl.1, off_ok n65, ⟨fun _ => trivial, fun _ => trivial⟩⟩⟩, ?_⟩
    unfold f_X6_why_46
    rw [h 5 (by omega), h 9 (by omega), pl.2, ed]
    by_cases a : v 5 = -1
    · rw [itp (e5.mpr a), if_pos a]; rfl
    · rw [itn (fun c => a (e5.mp c)), if_neg a]
      by_cases b : dist 65280 (v 5) (sP F (v 2)) ≤ v 9
      · rw [itp (e9.mpr b), if_pos b]; rfl
      · rw [itn (fun c => b (e9.mp c)), if_neg b]; rfl
  constructor
  · refine ⟨fun _ => ⟨ft.1, ⟨fun _ => trivial, fun c => ?_⟩⟩, fun _ => trivial⟩
    have hq : sQ F (v 2) ≠ 2 := fun d => c (by rw [ft.2]; exact ef.mpr d)
    exact ⟨ap.1, ⟨fun _ => (W46 hq).1, fun _ => ⟨fun _ => (W46 hq).1, fun _ => trivial⟩⟩⟩
  · unfold f_X6_why
    rw [hD, h 7 (by omega), ft.2, h 6 (by omega)]
    unfold sR
    by_cases a : D ≤ v 7
    · rw [itp (e7.mpr a), if_pos a]
      by_cases b : sQ F (v 2) = 2
      · rw [itp (ef.mpr b), if_pos b]; rfl
      · rw [itn (fun c => b (ef.mp c)), if_neg b, (W46 b).2]
        unfold sT sN
        by_cases c : sA v F ≤ v 8
        · rw [itp (ap.2.mpr c), if_pos c, if_pos (show (0 : Int) < 3 by omega)]
        · rw [itn (fun d => c (ap.2.mp d)), if_neg c]
          by_cases d : v 6 < 2
          · rw [itp (e6.mpr d), if_pos (show v 6 + 1 < 3 by omega)]
          · rw [itn (fun g => d (e6.mp g)), if_neg (show ¬ v 6 + 1 < 3 by omega)]; rfl
    · rw [itn (fun c => a (e7.mp c)), if_neg a]; rfl
theorem frM.am {σ σ' : Sg} {v : Nat → Int} {n : Nat} {hs : Nat → Nat → Int} {L : Nat} {tx : Nat → Int} (h : frM σ σ') (hM : AM σ v n hs L tx) : AM σ' v n hs L tx := hM.fr (h.1 35 (by omega) (by omega)) (h.1 36 (by omega) (by omega)) (h.1 37 (by omega) (by omega)) (h.2 2 (by decide)) (h.2 4 (by decide))
theorem q_fr {σ : Sg} {G : Int32 × Sg} {r : Int32} {s' : Sg} (e : G = (r, s')) (h1 : ∀ c, c < 28 → s' c = σ c) (h2 : s' 30 = σ 30) (h3 : s' 31 = σ 31) (h4 : ∀ c, 34 ≤ c → s' c = σ c) : ∀ q : Int32 × Sg, q = G → q.1 = r ∧ (∀ c, c < 28 → q.2 c = σ c) ∧ q.2 30 1 = σ 30 1 ∧ q.2 31 = σ 31 ∧ ∀ c, 34 ≤ c → q.2 c = σ c := by
  intro q h
  rw [h, e]
  exact ⟨rfl, h1, congrFun h2 1, h3, h4⟩
theorem op_reason (N : Int) (hN : N ≤ 1000000000) : Op ok_X5_reason f_X5_reason ok_X6_reason f_X6_reason N := by
  refine Op.of fun σ v n hs L tx hC hv hh hn hL hT => ?_
  have v1 := hv.2.1
  have e1 : (zI (v 1) = 0) ↔ v 1 = 0 := zq0 (by unfold zB; omega)
  by_cases q : v 1 = 0
  · refine op_same hC hv hh hn hL hT (-2) ⟨fun _ => trivial, fun c => absurd (by rw [hC.nc.s2]; exact e1.mpr q) c⟩ (q_same ?_) (fun τ hτ => m_same hτ ⟨fun _ => trivial, fun c => absurd (by rw [hτ.nm 1 (by omega)]; exact e1.mpr q) c⟩ ?_)
    · unfold f_X5_reason
      rw [hC.nc.s2, itp (e1.mpr q)]
    · unfold f_X6_reason
      rw [hτ.nm 1 (by omega), itp (e1.mpr q)]
  · have ba := aAng_b v
    have a1 := ang_C hC.nc hv.1
    have s1 := se_C hC.nc hv ba
    obtain ⟨w, hw⟩ : ∃ w : Sg, w = f_X1_search (f_X3_angle σ) σ := ⟨_, rfl⟩
    obtain ⟨-, w1, w2, -, wf⟩ := s1.2 w (by rw [hw, a1.2])
    have J := judge_C (wf.nc hC.nc) hv hN w1 (fL_b _ _) w2 (fD_b _ _)
    obtain ⟨jf, j0, -⟩ := J.2 _ rfl
    refine op_same hC hv hh hn hL hT (zI (sR v (fL v (aAng v)) (fD v (aAng v)))) ⟨fun _ => trivial, fun _ => ⟨a1.1, by rw [a1.2]; exact s1.1, by dsimp only; rw [← hw]; exact ⟨J.1, trivial⟩⟩⟩ (fun p e => ?_) (fun τ hτ => ?_)
    · refine q_fr (s' := f_X4_judge w) ?_ (fun c hc => by rw [jf c (by omega), wf.1 c (by omega)]) (by rw [jf 30 (by omega), wf.1 30 (by omega)]) (by rw [jf 31 (by omega), wf.1 31 (by omega)]) (fun c hc => by rw [jf c (by omega), wf.1 c (by omega)]) p e
      unfold f_X5_reason
      rw [hC.nc.s2, itn (fun c => q (e1.mp c))]
      dsimp only
      rw [← hw, j0]
    · have a2 := ang_M hτ.nm hv.1
      have l := lo_M hτ.nm hv ba
      obtain ⟨u, hu⟩ : ∃ u : Sg, u = f_X6_looks (f_X6_angle τ) τ := ⟨_, rfl⟩
      obtain ⟨-, u1, u2, -, uf⟩ := l.2 u (by rw [hu, a2])
      have W := why_M (uf.nm hτ.nm) hv u1 (fL_b _ _) u2 (fD_b _ _) hN
      refine ⟨⟨fun _ => trivial, fun _ => ⟨trivial, by rw [a2]; exact l.1, by dsimp only; rw [← hu]; exact ⟨W.1, trivial⟩⟩⟩, fun p e => ?_⟩
      have e' : p = (f_X6_why u, u) := by
        rw [e]
        unfold f_X6_reason
        rw [hτ.nm 1 (by omega), itn (fun c => q (e1.mp c))]
        dsimp only
        rw [← hu]
      rw [e']
      exact ⟨W.2, uf.am hτ, fun c hc => uf.1 c (by omega) (by omega)⟩
noncomputable def sV (v : Nat → Int) (F D : Int) : Nat → Int := if D ≤ v 7 ∧ sQ F (v 2) ≠ 2 then (if sR v F D = 0 then vu (vu (vu v 6 (sN v F)) 2 (sC F (v 2))) 5 (sP F (v 2)) else vu (vu v 6 (sN v F)) 2 (sC F (v 2))) else v
noncomputable def sZ (v : Nat → Int) (F D : Int) : Int := if sR v F D = 0 then sP F (v 2) else 100000 + sR v F D
theorem sR_b (v : Nat → Int) (F D : Int) : 0 ≤ sR v F D ∧ sR v F D ≤ 4 := by
  have := sT_b v (sN v F) (sP F (v 2))
  unfold sR
  split
  · split <;> omega
  · omega
theorem sR_i {v : Nat → Int} {F D : Int} : (D ≤ v 7 ∧ sQ F (v 2) ≠ 2) ↔ ¬ (sR v F D = 1 ∨ sR v F D = 2) := by
  have := sT_b v (sN v F) (sP F (v 2))
  unfold sR
  split
  · split
    · rename_i a b
      exact ⟨fun c => absurd b c.2, fun c => absurd (Or.inr rfl) c⟩
    · rename_i a b
      exact ⟨fun _ => by omega, fun _ => ⟨a, b⟩⟩
  · rename_i a
    exact ⟨fun c => absurd c.1 a, fun c => absurd (Or.inl rfl) c⟩
theorem sV_vs {v : Nat → Int} {F D N : Int} (hv : VS N v) (hF : 0 ≤ F ∧ F < 4080) (h0 : 0 ≤ N) : VS (N + 1) (sV v F D) := by
  have v6 := hv.2.2.2.2.2.2.1
  have bc := sC_b F (v 2)
  have bp := sP_b (w := v 2) hF
  have bn : 0 ≤ sN v F ∧ sN v F ≤ N + 1 := by unfold sN; split <;> omega
  have g : VS (N + 1) v := hv.up (by omega)
  have g6 : VS (N + 1) (vu v 6 (sN v F)) := g.vu (by unfold VK; omega)
  have g2 : VS (N + 1) (vu (vu v 6 (sN v F)) 2 (sC F (v 2))) := g6.vu (by unfold VK; omega)
  unfold sV
  split
  · split
    · exact g2.vu (by unfold VK; omega)
    · exact g2
  · exact g
theorem sample_C {σ : Sg} {v : Nat → Int} {n : Nat} {hs : Nat → Nat → Int} {L : Nat} {tx : Nat → Int} {N : Int} (hC : AC σ v n hs L tx) (hv : VS N v) (hn : n ≤ 4) (hN : N ≤ 1000000000) (q : ¬ v 1 = 0) :
    ok_X5_sample σ ∧ ∀ p : Int32 × Sg, p = f_X5_sample σ → p.1 = zI (sZ v (fL v (aAng v)) (fD v (aAng v))) ∧ AC p.2 (sV v (fL v (aAng v)) (fD v (aAng v))) (pn n) (ph n hs v) L tx ∧ ∀ c, 34 ≤ c → p.2 c = σ c := by
  have v1 := hv.2.1
  have e1 : (zI (v 1) = 0) ↔ v 1 = 0 := zq0 (by unfold zB; omega)
  have hkeep := keep_C hC hn hv.2.1
  obtain ⟨k1, k2⟩ := hkeep.2 _ rfl
  obtain ⟨w0, hw0⟩ : ∃ w : Sg, w = f_X2_keep σ := ⟨_, rfl⟩
  rw [← hw0] at k1 k2
  have ba := aAng_b v
  have a1 := ang_C k1.nc hv.1
  have s1 := se_C k1.nc hv ba
  obtain ⟨w, hw⟩ : ∃ w : Sg, w = f_X1_search (f_X3_angle w0) w0 := ⟨_, rfl⟩
  obtain ⟨-, w1, w2, -, wf⟩ := s1.2 w (by rw [hw, a1.2])
  have hFb := fL_b v (aAng v)
  have hDb := fD_b v (aAng v)
  obtain ⟨F, hF⟩ : ∃ F : Int, F = fL v (aAng v) := ⟨_, rfl⟩
  obtain ⟨D, hD⟩ : ∃ D : Int, D = fD v (aAng v) := ⟨_, rfl⟩
  rw [← hF] at w1 hFb ⊢
  rw [← hD] at w2 hDb ⊢
  have J := judge_C (wf.nc k1.nc) hv hN w1 hFb w2 hDb
  obtain ⟨jf, j0, ja, jb⟩ := J.2 _ rfl
  obtain ⟨y, hy⟩ : ∃ y : Sg, y = f_X4_judge w := ⟨_, rfl⟩
  rw [← hy] at jf j0 ja jb
  have yA : AC y v (pn n) (ph n hs v) L tx := k1.fr (fun c hc => by rw [jf c (by omega), wf.1 c (by omega)]) (by rw [jf 30 (by omega), wf.1 30 (by omega)]) (by rw [jf 31 (by omega), wf.1 31 (by omega)])
  have yf : ∀ c, 34 ≤ c → y c = σ c := fun c hc => by rw [jf c (by omega), wf.1 c (by omega), k2 c (Or.inr (by omega))]
  have bR := sR_b v F D
  have eR : (zI (sR v F D) = 0) ↔ sR v F D = 0 := zq0 (by unfold zB; omega)
  obtain ⟨X1, X2, hX1, hX2, hX⟩ : ∃ X1 X2 : Int, y 29 1 = zI X1 ∧ y 29 2 = zI X2 ∧ vu (vu v 2 X1) 6 X2 = (if D ≤ v 7 ∧ sQ F (v 2) ≠ 2 then vu (vu v 6 (sN v F)) 2 (sC F (v 2)) else v) := by
    by_cases g : D ≤ v 7 ∧ sQ F (v 2) ≠ 2
    · exact ⟨sC F (v 2), sN v F, (jb g).1, (jb g).2.1, by rw [if_pos g, vu_comm (show (2 : Nat) ≠ 6 by omega)]⟩
    · exact ⟨v 2, v 6, (ja g).1, (ja g).2, by rw [if_neg g, vu_self rfl, vu_self rfl]⟩
  obtain ⟨z, hz⟩ : ∃ z : Sg, z = pu (pu y 1 1 (y 29 1)) 1 6 (pu y 1 1 (y 29 1) 29 2) := ⟨_, rfl⟩
  have hz' : z = pu (pu y 1 1 (zI X1)) 1 6 (zI X2) := by rw [hz, pu_ne (show 29 ≠ 1 by omega), hX1, hX2]
  have zA : AC z (vu (vu v 2 X1) 6 X2) (pn n) (ph n hs v) L tx := by
    have u1 : AC (pu y 1 1 (zI X1)) (vu v 2 X1) (pn n) (ph n hs v) L tx := yA.upd (Or.inl ⟨rfl, by omega, rfl⟩)
    have u2 : AC (pu (pu y 1 1 (zI X1)) 1 6 (zI X2)) (vu (vu v 2 X1) 6 X2) (pn n) (ph n hs v) L tx := u1.upd (Or.inl ⟨rfl, by omega, rfl⟩)
    rw [hz']
    exact u2
  rw [hX] at zA
  have z29 : ∀ k, z 29 k = y 29 k := fun k => by rw [hz', pu_ne (by omega), pu_ne (by omega)]
  have z0 : z 29 0 = zI (sR v F D) := by rw [z29]; exact j0
  have zf : ∀ c, 34 ≤ c → z c = σ c := fun c hc => by rw [hz', pu_ne (by omega), pu_ne (by omega)]; exact yf c hc
  constructor
  · refine ⟨fun _ => trivial, fun _ => ⟨hkeep.1, ?_⟩⟩
    dsimp only
    rw [← hw0]
    refine ⟨a1.1, by rw [a1.2]; exact s1.1, ?_⟩
    rw [← hw]
    exact ⟨J.1, ⟨fun _ => trivial, fun _ => trivial⟩⟩
  · intro p e
    have e' : p = o_ite (z 29 0 = 0) (pu z 1 5 (z 29 3) 1 5, pu z 1 5 (z 29 3)) (100000 + z 29 0, z) := by
      rw [e]
      unfold f_X5_sample
      rw [hC.nc.s2, itn (fun c => q (e1.mp c))]
      dsimp only
      rw [← hw0, ← hw, ← hy, ← hz]
    unfold sV sZ
    by_cases r : sR v F D = 0
    · have g : D ≤ v 7 ∧ sQ F (v 2) ≠ 2 := sR_i.mpr (by omega)
      rw [if_pos g] at zA
      rw [itp (by rw [z0]; exact eR.mpr r)] at e'
      rw [if_pos g, if_pos r, if_pos r]
      have z3 : z 29 3 = zI (sP F (v 2)) := by rw [z29]; exact (jb g).2.2
      rw [z3] at e'
      have u : AC (pu z 1 5 (zI (sP F (v 2)))) (vu (vu (vu v 6 (sN v F)) 2 (sC F (v 2))) 5 (sP F (v 2))) (pn n) (ph n hs v) L tx := zA.upd (Or.inl ⟨rfl, by omega, rfl⟩)
      exact qC ((e.symm.trans e').trans (congrArg (fun x => (x, _)) pu_at)) u (fun c hc => by rw [pu_ne (by omega)]; exact zf c hc) p e
    · rw [itn (by rw [z0]; exact fun c => r (eR.mp c)), z0] at e'
      have z1 : 100000 + zI (sR v F D) = zI (100000 + sR v F D) := z_add 100000 _
      rw [z1] at e'
      rw [if_neg r, if_neg r]
      exact qC (e.symm.trans e') zA zf p e
theorem sample_M {σ : Sg} {v : Nat → Int} {n : Nat} {hs : Nat → Nat → Int} {L : Nat} {tx : Nat → Int} {N : Int} (hM : AM σ v n hs L tx) (hv : VS N v) (hn : n ≤ 4) (hN : N ≤ 1000000000) (q : ¬ v 1 = 0) :
    ok_X6_sample σ ∧ ∀ p : Int32 × Sg, p = f_X6_sample σ → p.1 = zI (sZ v (fL v (aAng v)) (fD v (aAng v))) ∧ AM p.2 (sV v (fL v (aAng v)) (fD v (aAng v))) (pn n) (ph n hs v) L tx ∧ ∀ c, c < 34 → p.2 c = σ c := by
  have v1 := hv.2.1
  have v2 := hv.2.2.1
  have v6 := hv.2.2.2.2.2.2.1
  have e1 : (zI (v 1) = 0) ↔ v 1 = 0 := zq0 (by unfold zB; omega)
  have hsv := saves_M hM hn
  obtain ⟨k1, k2, k3⟩ := hsv.2 _ rfl
  obtain ⟨w0, hw0⟩ : ∃ w : Sg, w = f_X6_saves σ := ⟨_, rfl⟩
  rw [← hw0] at k1 k2
  have ba := aAng_b v
  have a2 := ang_M k1.nm hv.1
  have l := lo_M k1.nm hv ba
  obtain ⟨u, hu⟩ : ∃ u : Sg, u = f_X6_looks (f_X6_angle w0) w0 := ⟨_, rfl⟩
  obtain ⟨-, u1, u2, -, uf⟩ := l.2 u (by rw [hu, a2])
  have hFb := fL_b v (aAng v)
  have hDb := fD_b v (aAng v)
  obtain ⟨F, hF⟩ : ∃ F : Int, F = fL v (aAng v) := ⟨_, rfl⟩
  obtain ⟨D, hD⟩ : ∃ D : Int, D = fD v (aAng v) := ⟨_, rfl⟩
  rw [← hF] at u1 hFb ⊢
  rw [← hD] at u2 hDb ⊢
  have uM : AM u v (pn n) (ph n hs v) L tx := uf.am k1
  have W := why_M uM.nm hv u1 hFb u2 hDb hN
  have ap := ap_M uM.nm hv u1 hFb
  have bR := sR_b v F D
  have bp := sP_b (w := v 2) hFb
  have uF : ∀ c, c < 34 → u c = σ c := fun c hc => by rw [uf.1 c (by omega) (by omega), k2 c (by omega) (by omega)]
  have r0 : (zI (sR v F D) = 0) ↔ sR v F D = 0 := zq0 (by unfold zB; omega)
  have r1 : (zI (sR v F D) = 1) ↔ sR v F D = 1 := zq1 (by unfold zB; omega)
  have r2 : (zI (sR v F D) = 2) ↔ sR v F D = 2 := zq2 (by unfold zB; omega)
  have z1 : 100000 + zI (sR v F D) = zI (100000 + sR v F D) := z_add 100000 _
  have t5 : (5 : Int32).toNatClampNeg = 5 := rfl
  have t6 : (6 : Int32).toNatClampNeg = 6 := rfl
  have n5 : vp_in (5 : Int32) 62 := z_in (a := 5) (by omega) (by omega) (by omega)
  have n6 : vp_in (6 : Int32) 62 := z_in (a := 6) (by omega) (by omega) (by omega)
  -- the last step, at a state whose row is v'
  have S90 : ∀ (x2 : Int32) (s : Sg) (v' : Nat → Int), AM s v' (pn n) (ph n hs v) L tx → (∀ c, c < 34 → s c = σ c) → (sR v F D = 0 → x2 = zI (sP F (v 2))) → ok_X6_sample_90 (zI (sR v F D)) x2 s ∧ ∀ p : Int32 × Sg, p = f_X6_sample_90 (zI (sR v F D)) x2 s → p.1 = zI (sZ v F D) ∧ AM p.2 (if sR v F D = 0 then vu v' 5 (sP F (v 2)) else v') (pn n) (ph n hs v) L tx ∧ ∀ c, c < 34 → p.2 c = σ c := by
    intro x2 s v' hs' hf hx
    refine ⟨⟨fun _ => ⟨n5, ⟨fun _ => trivial, fun _ => trivial⟩⟩, fun _ => ⟨n5, ⟨fun _ => trivial, fun _ => trivial⟩⟩⟩, fun p e => ?_⟩
    unfold f_X6_sample_90 f_X6_sample_109 at e
    dsimp only at e
    rw [t5] at e
    unfold sZ
    by_cases r : sR v F D = 0
    · rw [itp (r0.mpr r), itp (r0.mpr r), hx r] at e
      rw [if_pos r, if_pos r]
      have u : AM (pu s 35 5 (zI (sP F (v 2)))) (vu v' 5 (sP F (v 2))) (pn n) (ph n hs v) L tx := hs'.upd
      exact qM e.symm.symm u (fun c hc => by rw [pu_ne (by omega)]; exact hf c hc) p rfl
    · rw [itn (fun c => r (r0.mp c)), itn (fun c => r (r0.mp c)), z1, hs'.nm 5 (by omega)] at e
      rw [if_neg r, if_neg r]
      have u : AM (pu s 35 5 (zI (v' 5))) (vu v' 5 (v' 5)) (pn n) (ph n hs v) L tx := hs'.upd
      rw [vu_self rfl] at u
      exact qM e.symm.symm u (fun c hc => by rw [pu_ne (by omega)]; exact hf c hc) p rfl
  have S79 : (D ≤ v 7 ∧ sQ F (v 2) ≠ 2) → ∀ (Y : Int), Y = sN v F → ok_X6_sample_79 (zI (sR v F D)) (zI (sP F (v 2))) (zI Y) 6 u ∧ ∀ p : Int32 × Sg, p = f_X6_sample_79 (zI (sR v F D)) (zI (sP F (v 2))) (zI Y) 6 u → p.1 = zI (sZ v F D) ∧ AM p.2 (sV v F D) (pn n) (ph n hs v) L tx ∧ ∀ c, c < 34 → p.2 c = σ c := by
    intro g Y hY
    have s1 : AM (pu u 35 6 (zI Y)) (vu v 6 Y) (pn n) (ph n hs v) L tx := uM.upd
    have ft := fit_M (σ := pu u 35 6 (zI Y)) (F := F) (w := v 2) (by rw [pu_ne (by omega)]; exact u1) hFb (by rw [pu_un (by omega)]; exact uM.nm 2 (by omega)) v2
    rw [if_neg g.2] at ft
    have s2 : AM (pu (pu u 35 6 (zI Y)) 35 2 (zI (sC F (v 2)))) (vu (vu v 6 Y) 2 (sC F (v 2))) (pn n) (ph n hs v) L tx := s1.upd
    have r := S90 (zI (sP F (v 2))) _ _ s2 (fun c hc => by rw [pu_ne (by omega), pu_ne (by omega)]; exact uF c hc) (fun _ => rfl)
    constructor
    · unfold ok_X6_sample_79
      dsimp only
      rw [t6, ft.2]
      exact ⟨n6, ft.1, r.1⟩
    · intro p e
      unfold f_X6_sample_79 at e
      dsimp only at e
      rw [t6, ft.2] at e
      have x := r.2 p e
      unfold sV
      rw [if_pos g, ← hY]
      exact x
  have S47 : ok_X6_sample_47 (zI (sR v F D)) (-1) u ∧ ((¬ (D ≤ v 7 ∧ sQ F (v 2) ≠ 2)) → ∀ p : Int32 × Sg, p = f_X6_sample_47 (zI (sR v F D)) (-1) u → p.1 = zI (sZ v F D) ∧ AM p.2 (sV v F D) (pn n) (ph n hs v) L tx ∧ ∀ c, c < 34 → p.2 c = σ c) := by
    constructor
    · exact ⟨fun _ => ⟨fun _ => ⟨n5, ⟨fun _ => trivial, fun _ => trivial⟩⟩, fun _ => ⟨n5, ⟨fun _ => trivial, fun _ => trivial⟩⟩⟩, fun c => absurd rfl c⟩
    · intro g p e
      have hr : sR v F D = 1 ∨ sR v F D = 2 := by
        by_cases h : sR v F D = 1 ∨ sR v F D = 2
        · exact h
        · exact absurd (sR_i.mpr h) g
      have r := (S90 (-1) u v uM uF (fun c => by omega)).2 p (by rw [e]; unfold f_X6_sample_47; rw [itp rfl])
      rw [if_neg (by omega)] at r
      unfold sV
      rw [if_neg g]
      exact r
  have P47 : (D ≤ v 7 ∧ sQ F (v 2) ≠ 2) → ok_X6_sample_47 (zI (sR v F D)) (zI (sP F (v 2))) u ∧ ∀ p : Int32 × Sg, p = f_X6_sample_47 (zI (sR v F D)) (zI (sP F (v 2))) u → p.1 = zI (sZ v F D) ∧ AM p.2 (sV v F D) (pn n) (ph n hs v) L tx ∧ ∀ c, c < 34 → p.2 c = σ c := by
    intro g
    have ne : ¬ (zI (sP F (v 2)) = -1) := by rw [z_m1, z_eq (by unfold zB; omega) (by unfold zB; omega)]; omega
    have z6 : u 35 6 + 1 = zI (v 6 + 1) := by rw [uM.nm 6 (by omega)]; exact z_add _ 1
    constructor
    · refine ⟨fun c => absurd c ne, fun _ => ⟨ap.1, ⟨fun c => ?_, fun c => ?_⟩⟩⟩
      · exact (S79 g 0 (by unfold sN; rw [if_pos (ap.2.mp c)])).1
      · rw [z6]
        exact (S79 g (v 6 + 1) (by unfold sN; rw [if_neg (fun d => c (ap.2.mpr d))])).1
    · intro p e
      unfold f_X6_sample_47 at e
      rw [itn ne, z6] at e
      by_cases c : f_X6_isCoarseApart u = 0
      · rw [itp c] at e
        exact (S79 g 0 (by unfold sN; rw [if_pos (ap.2.mp c)])).2 p e
      · rw [itn c] at e
        exact (S79 g (v 6 + 1) (by unfold sN; rw [if_neg (fun d => c (ap.2.mpr d))])).2 p e
  constructor
  · refine ⟨fun _ => trivial, fun _ => ⟨hsv.1, ?_⟩⟩
    dsimp only
    rw [← hw0]
    refine ⟨trivial, by rw [a2]; exact l.1, ?_⟩
    rw [← hu, W.2]
    refine ⟨W.1, ⟨fun _ => S47.1, fun c1 => ⟨fun _ => S47.1, fun c2 => ?_⟩⟩⟩
    have g : D ≤ v 7 ∧ sQ F (v 2) ≠ 2 := sR_i.mpr (fun h => h.elim (fun a => c1 (r1.mpr a)) (fun a => c2 (r2.mpr a)))
    have pl := pl_M u1 hFb (uM.nm 2 (by omega)) v2 g.2
    refine ⟨pl.1, ?_⟩
    rw [pl.2]
    exact (P47 g).1
  · intro p e
    have e' : p = o_ite (zI (sR v F D) = 1) (f_X6_sample_47 (zI (sR v F D)) (-1) u) (o_ite (zI (sR v F D) = 2) (f_X6_sample_47 (zI (sR v F D)) (-1) u) (f_X6_sample_47 (zI (sR v F D)) (f_X6_placeFound u) u)) := by
      rw [e]
      unfold f_X6_sample f_X6_sample_39
      rw [hM.nm 1 (by omega), itn (fun c => q (e1.mp c))]
      dsimp only
      rw [← hw0, ← hu, W.2]
    by_cases c1 : sR v F D = 1
    · rw [itp (r1.mpr c1)] at e'
      exact S47.2 (fun g => sR_i.mp g (Or.inl c1)) p e'
    · rw [itn (fun c => c1 (r1.mp c))] at e'
      by_cases c2 : sR v F D = 2
      · rw [itp (r2.mpr c2)] at e'
        exact S47.2 (fun g => sR_i.mp g (Or.inr c2)) p e'
      · rw [itn (fun c => c2 (r2.mp c))] at e'
        have g : D ≤ v 7 ∧ sQ F (v 2) ≠ 2 := sR_i.mpr (fun h => h.elim c1 c2)
        have pl := pl_M u1 hFb (uM.nm 2 (by omega)) v2 g.2
        rw [pl.2] at e'
        exact (P47 g).2 p e'
theorem op_sample (N : Int) (h0 : 0 ≤ N) (hN : N ≤ 1000000000) : Op ok_X5_sample f_X5_sample ok_X6_sample f_X6_sample N := by
  refine Op.of fun σ v n hs L tx hC hv hh hn hL hT => ?_
  have v1 := hv.2.1
  have e1 : (zI (v 1) = 0) ↔ v 1 = 0 := zq0 (by unfold zB; omega)
  by_cases q : v 1 = 0
  · refine op_same hC hv hh hn hL hT (-2) ⟨fun _ => trivial, fun c => absurd (by rw [hC.nc.s2]; exact e1.mpr q) c⟩ (q_same ?_) (fun τ hτ => m_same hτ ⟨fun _ => trivial, fun c => absurd (by rw [hτ.nm 1 (by omega)]; exact e1.mpr q) c⟩ ?_)
    · unfold f_X5_sample
      rw [hC.nc.s2, itp (e1.mpr q)]
    · unfold f_X6_sample
      rw [hτ.nm 1 (by omega), itp (e1.mpr q)]
  · have a := sample_C hC hv hn hN q
    exact ⟨_, _, _, _, _, _, a.1, a.2, fun τ hτ => sample_M hτ hv hn hN q, sV_vs hv (fL_b _ _) h0, fun j hj => (ph_vs hv hh hn j hj).up (by omega), pn_le hn, hL, hT⟩
