set_option linter.all false
noncomputable def sV (v : Nat → Int) (F D : Int) : Nat → Int := if D ≤ v 7 ∧ sQ F (v 2) ≠ 2 then (if sR v F D = 0 then vu (vu (vu v 6 (sN v F)) 2 (sC F (v 2))) 5 (sP F (v 2)) else vu (vu v 6 (sN v F)) 2 (sC F (v 2))) else v
noncomputable def sZ (v : Nat → Int) (F D : Int) : Int := if sR v F D = 0 then sP F (v 2) else 100000 + sR v F D
theorem sR_b (v : Nat → Int) (F D : Int) : 0 ≤ sR v F D ∧ sR v F D ≤ 4 := by
  have := sT_b v (sN v F) (sP F (v 2))
  unfold sR
  split
  · split <;> omega
  · omega
theorem sR_i {v : Nat → Int} {F D : Int} : (D ≤ v 7 ∧ sQ F (v 2) ≠ 2) ↔ ¬ (sR v F D = 1 ∨ sR v F D = 2) := by
  have := sT_b v (sN v F) (sP F (v 2))
  unfold sR
  split
  · split
    · rename_i a b
      exact ⟨fun c => absurd b c.2, fun c => absurd (Or.inr rfl) c⟩
    · rename_i a b
      exact ⟨fun _ => by omega, fun _ => ⟨a, b⟩⟩
  · rename_i a
    exact ⟨fun c => absurd c.1 a, fun c => absurd (Or.inl rfl) c⟩
theorem sV_vs {v : Nat → Int} {F D N : Int} (hv : VS N v) (hF : 0 ≤ F ∧ F < 4080) (h0 : 0 ≤ N) : VS (N + 1) (sV v F D) := by
  have v6 := hv.2.2.2.2.2.2.1
  have bc := sC_b F (v 2)
  have bp := sP_b (w := v 2) hF
  have bn : 0 ≤ sN v F ∧ sN v F ≤ N + 1 := by unfold sN; split <;> omega
  have g : VS (N + 1) v := hv.up (by omega)
  have g6 : VS (N + 1) (vu v 6 (sN v F)) := g.vu (by unfold VK; omega)
  have g2 : VS (N + 1) (vu (vu v 6 (sN v F)) 2 (sC F (v 2))) := g6.vu (by unfold VK; omega)
  unfold sV
  split
  · split
    · exact g2.vu (by unfold VK; omega)
    · exact g2
  · exact g
theorem sample_C {σ : Sg} {v : Nat → Int} {n : Nat} {hs : Nat → Nat → Int} {L : Nat} {tx : Nat → Int} {N : Int} (hC : AC σ v n hs L tx) (hv : VS N v) (hn : n ≤ 4) (hN : N ≤ 1000000000) (q : ¬ v 1 = 0) :
    ok_X5_sample σ ∧ ∀ p : Int32 × Sg, p = f_X5_sample σ → p.1 = zI (sZ v (fL v (aAng v)) (fD v (aAng v))) ∧ AC p.2 (sV v (fL v (aAng v)) (fD v (aAng v))) (pn n) (ph n hs v) L tx ∧ ∀ c, 34 ≤ c → p.2 c = σ c := by
  have v1 := hv.2.1
  have e1 : (zI (v 1) = 0) ↔ v 1 = 0 := zq0 (by unfold zB; omega)
  have hkeep := keep_C hC hn hv.2.1
  obtain ⟨k1, k2⟩ := hkeep.2 _ rfl
  obtain ⟨w0, hw0⟩ : ∃ w : Sg, w = f_X2_keep σ := ⟨_, rfl⟩
  rw [← hw0] at k1 k2
  have ba := aAng_b v
  have a1 := ang_C k1.nc hv.1
  have s1 := se_C k1.nc hv ba
  obtain ⟨w, hw⟩ : ∃ w : Sg, w = f_X1_search (f_X3_angle w0) w0 := ⟨_, rfl⟩
  obtain ⟨-, w1, w2, -, wf⟩ := s1.2 w (by rw [hw, a1.2])
  have hFb := fL_b v (aAng v)
  have hDb := fD_b v (aAng v)
  obtain ⟨F, hF⟩ : ∃ F : Int, F = fL v (aAng v) := ⟨_, rfl⟩
  obtain ⟨D, hD⟩ : ∃ D : Int, D = fD v (aAng v) := ⟨_, rfl⟩
  rw [← hF] at w1 hFb ⊢
  rw [← hD] at w2 hDb ⊢
  have J := judge_C (wf.nc k1.nc) hv hN w1 hFb w2 hDb
  obtain ⟨jf, j0, ja, jb⟩ := J.2 _ rfl
  obtain ⟨y, hy⟩ : ∃ y : Sg, y = f_X4_judge w := ⟨_, rfl⟩
  rw [← hy] at jf j0 ja jb
  have yA : AC y v (pn n) (ph n hs v) L tx := k1.fr (fun c hc => by rw [jf c (by omega), wf.1 c (by omega)]) (by rw [jf 30 (by omega), wf.1 30 (by omega)]) (by rw [jf 31 (by omega), wf.1 31 (by omega)])
  have yf : ∀ c, 34 ≤ c → y c = σ c := fun c hc => by rw [jf c (by omega), wf.1 c (by omega), k2 c (Or.inr (by omega))]
  have bR := sR_b v F D
  have eR : (zI (sR v F D) = 0) ↔ sR v F D = 0 := zq0 (by unfold zB; omega)
  obtain ⟨X1, X2, hX1, hX2, hX⟩ : ∃ X1 X2 : Int, y 29 1 = zI X1 ∧ y 29 2 = zI X2 ∧ vu (vu v 2 X1) 6 X2 = (if D ≤ v 7 ∧ sQ F (v 2) ≠ 2 then vu (vu v 6 (sN v F)) 2 (sC F (v 2)) else v) := by
    by_cases g : D ≤ v 7 ∧ sQ F (v 2) ≠ 2
    · exact ⟨sC F (v 2), sN v F, (jb g).1, (jb g).2.1, by rw [if_pos g, vu_comm (show (2 : Nat) ≠ 6 by omega)]⟩
    · exact ⟨v 2, v 6, (ja g).1, (ja g).2, by rw [if_neg g, vu_self rfl, vu_self rfl]⟩
  obtain ⟨z, hz⟩ : ∃ z : Sg, z = pu (pu y 1 1 (y 29 1)) 1 6 (pu y 1 1 (y 29 1) 29 2) := ⟨_, rfl⟩
  have hz' : z = pu (pu y 1 1 (zI X1)) 1 6 (zI X2) := by rw [hz, pu_ne (show 29 ≠ 1 by omega), hX1, hX2]
  have zA : AC z (vu (vu v 2 X1) 6 X2) (pn n) (ph n hs v) L tx := by
    have u1 : AC (pu y 1 1 (zI X1)) (vu v 2 X1) (pn n) (ph n hs v) L tx := yA.upd (Or.inl ⟨rfl, by omega, rfl⟩)
    have u2 : AC (pu (pu y 1 1 (zI X1)) 1 6 (zI X2)) (vu (vu v 2 X1) 6 X2) (pn n) (ph n hs v) L tx := u1.upd (Or.inl ⟨rfl, by omega, rfl⟩)
    rw [hz']
    exact u2
  rw [hX] at zA
  have z29 : ∀ k, z 29 k = y 29 k := fun k => by rw [hz', pu_ne (by omega), pu_ne (by omega)]
  have z0 : z 29 0 = zI (sR v F D) := by rw [z29]; exact j0
  have zf : ∀ c, 34 ≤ c → z c = σ c := fun c hc => by rw [hz', pu_ne (by omega), pu_ne (by omega)]; exact yf c hc
  constructor
  · refine ⟨fun _ => trivial, fun _ => ⟨hkeep.1, ?_⟩⟩
    dsimp only
    rw [← hw0]
    refine ⟨a1.1, by rw [a1.2]; exact s1.1, ?_⟩
    rw [← hw]
    exact ⟨J.1, ⟨fun _ => trivial, fun _ => trivial⟩⟩
  · intro p e
    have e' : p = o_ite (z 29 0 = 0) (pu z 1 5 (z 29 3) 1 5, pu z 1 5 (z 29 3)) (100000 + z 29 0, z) := by
      rw [e]
      unfold f_X5_sample
      rw [hC.nc.s2, itn (fun c => q (e1.mp c))]
      dsimp only
      rw [← hw0, ← hw, ← hy, ← hz]
    unfold sV sZ
    by_cases r : sR v F D = 0
    · have g : D ≤ v 7 ∧ sQ F (v 2) ≠ 2 := sR_i.mpr (by omega)
      rw [if_pos g] at zA
      rw [itp (by rw [z0]; exact eR.mpr r)] at e'
      rw [if_pos g, if_pos r, if_pos r]
      have z3 : z 29 3 = zI (sP F (v 2)) := by rw [z29]; exact (jb g).2.2
      rw [z3] at e'
      have u : AC (pu z 1 5 (zI (sP F (v 2)))) (vu (vu (vu v 6 (sN v F)) 2 (sC F (v 2))) 5 (sP F (v 2))) (pn n) (ph n hs v) L tx := zA.upd (Or.inl ⟨rfl, by omega, rfl⟩)
      exact qC ((e.symm.trans e').trans (congrArg (fun x => (x, _)) pu_at)) u (fun c hc => by rw [pu_ne (by omega)]; exact zf c hc) p e
    · rw [itn (by rw [z0]; exact fun c => r (eR.mp c)), z0] at e'
      have z1 : 100000 + zI (sR v F D) = zI (100000 + sR v F D) := z_add 100000 _
      rw [z1] at e'
      rw [if_neg r, if_neg r]
      exact qC (e.symm.trans e') zA zf p e
