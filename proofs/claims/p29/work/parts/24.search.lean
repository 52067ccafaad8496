set_option linter.all false
/-! what is found in the table: both sides -/
noncomputable def f1 (v : Nat → Int) (a : Int) : Int := near (aRd v 0 a) (aRd v 1 a) (aRd v 2 a)
noncomputable def f2 (v : Nat → Int) (a : Int) (s : Nat) : Int := near (aCr v 0 (aRd v 0 a) s) (aCr v 1 (aRd v 1 a) s) (aCr v 2 (aRd v 2 a) s)
noncomputable def d2 (v : Nat → Int) (a : Int) (s : Nat) : Int := dev (f2 v a s) (aCr v 0 (aRd v 0 a) s) (aCr v 1 (aRd v 1 a) s) (aCr v 2 (aRd v 2 a) s)
noncomputable def fS (v : Nat → Int) (a : Int) : Nat := if sec (f2 v a (sec (f1 v a))) = sec (f1 v a) then sec (f1 v a) else sec (f2 v a (sec (f1 v a)))
noncomputable def fL (v : Nat → Int) (a : Int) : Int := f2 v a (fS v a)
noncomputable def fD (v : Nat → Int) (a : Int) : Int := d2 v a (fS v a)
noncomputable def fN (v : Nat → Int) (a : Int) : Int := if sec (f2 v a (sec (f1 v a))) = sec (f1 v a) then 2 else 3
theorem rdg_rd (v : Nat → Int) (a : Int) : rdg (aRd v 0 a) (aRd v 1 a) (aRd v 2 a) := by
  have h0 := aRd_b v 0 a
  have h1 := aRd_b v 1 a
  have h2 := aRd_b v 2 a
  rw [show aLen 0 = 272 from rfl] at h0
  rw [show aLen 1 = 255 from rfl] at h1
  rw [show aLen 2 = 240 from rfl] at h2
  exact ⟨h0.1, h0.2, h1.1, h1.2, h2.1, h2.2⟩
theorem rdg_cr (v : Nat → Int) (r0 r1 r2 : Int) (s : Nat) : rdg (aCr v 0 r0 s) (aCr v 1 r1 s) (aCr v 2 r2 s) := by
  have h0 := aCr_b v 0 r0 s
  have h1 := aCr_b v 1 r1 s
  have h2 := aCr_b v 2 r2 s
  rw [show aLen 0 = 272 from rfl] at h0
  rw [show aLen 1 = 255 from rfl] at h1
  rw [show aLen 2 = 240 from rfl] at h2
  exact ⟨h0.1, h0.2, h1.1, h1.2, h2.1, h2.2⟩
theorem f1_b (v : Nat → Int) (a : Int) : 0 ≤ f1 v a ∧ f1 v a < 4080 := near_b _ _ _
theorem f2_b (v : Nat → Int) (a : Int) (s : Nat) : 0 ≤ f2 v a s ∧ f2 v a s < 4080 := near_b _ _ _
theorem fL_b (v : Nat → Int) (a : Int) : 0 ≤ fL v a ∧ fL v a < 4080 := near_b _ _ _
theorem fD_b (v : Nat → Int) (a : Int) : 0 ≤ fD v a ∧ fD v a ≤ 136 := dev_b _ _ _ _
theorem fr.nc {ks : List Nat} {σ σ' : Sg} {v : Nat → Int} (h : fr 28 ks σ σ') (hn : NC σ v) : NC σ' v := hn.same (fun c a b => h.1 c (by omega))
theorem sc_C {σ : Sg} {v : Nat → Int} {N : Int} {a : Int} {s : Nat} (h : NC σ v) (hv : VS N v) (ha : 0 ≤ a ∧ a < 4080) (hs : s < 8) : ok_X1_searchCorrected (zI a) (zI s) σ ∧ ∀ σ' : Sg, σ' = f_X1_searchCorrected (zI a) (zI s) σ → σ' 28 1 = zI (f2 v a s) ∧ σ' 28 2 = zI (d2 v a s) ∧ fr 28 [1, 2] σ σ' := by
  have R := fun (t : Nat) (ht : t < 3) => rd_C h hv ht ha
  have B := fun (t : Nat) => aRd_b v t a
  have r0 : ok_X3_readingAt 0 (zI a) σ ∧ f_X3_readingAt 0 (zI a) σ = zI (aRd v 0 a) := R 0 (by omega)
  have r1 : ok_X3_readingAt 1 (zI a) σ ∧ f_X3_readingAt 1 (zI a) σ = zI (aRd v 1 a) := R 1 (by omega)
  have r2 : ok_X3_readingAt 2 (zI a) σ ∧ f_X3_readingAt 2 (zI a) σ = zI (aRd v 2 a) := R 2 (by omega)
  have l0 := aLen_b 0
  have l1 := aLen_b 1
  have l2 := aLen_b 2
  have g0 := B 0
  have g1 := B 1
  have g2 := B 2
  have c0 : ok_X3_corrected 0 (zI (aRd v 0 a)) (zI s) σ ∧ f_X3_corrected 0 (zI (aRd v 0 a)) (zI s) σ = zI (aCr v 0 (aRd v 0 a) s) := cr_C (t := 0) h hv (by omega) hs (by omega)
  have c1 : ok_X3_corrected 1 (zI (aRd v 1 a)) (zI s) σ ∧ f_X3_corrected 1 (zI (aRd v 1 a)) (zI s) σ = zI (aCr v 1 (aRd v 1 a) s) := cr_C (t := 1) h hv (by omega) hs (by omega)
  have c2 : ok_X3_corrected 2 (zI (aRd v 2 a)) (zI s) σ ∧ f_X3_corrected 2 (zI (aRd v 2 a)) (zI s) σ = zI (aCr v 2 (aRd v 2 a) s) := cr_C (t := 2) h hv (by omega) hs (by omega)
  have nr := near_C (σ := σ) (rdg_cr v (aRd v 0 a) (aRd v 1 a) (aRd v 2 a) s)
  have bn := near_b (aCr v 0 (aRd v 0 a) s) (aCr v 1 (aRd v 1 a) s) (aCr v 2 (aRd v 2 a) s)
  constructor
  · unfold ok_X1_searchCorrected
    rw [r0.2, r1.2, r2.2, c0.2, c1.2, c2.2]
    exact ⟨r0.1, c0.1, r1.1, c1.1, r2.1, c2.1, nr.1, dev_ok, trivial⟩
  · intro σ' e
    unfold f_X1_searchCorrected at e
    rw [r0.2, r1.2, r2.2, c0.2, c1.2, c2.2, nr.2] at e
    obtain ⟨τ, hτ⟩ : ∃ τ : Sg, τ = pu σ 28 1 (zI (near (aCr v 0 (aRd v 0 a) s) (aCr v 1 (aRd v 1 a) s) (aCr v 2 (aRd v 2 a) s))) := ⟨_, rfl⟩
    have e' : σ' = pu τ 28 2 (f_X5_deviation (τ 28 1) (zI (aCr v 0 (aRd v 0 a) s)) (zI (aCr v 1 (aRd v 1 a) s)) (zI (aCr v 2 (aRd v 2 a) s)) τ) := by rw [hτ]; exact e
    have t1 : τ 28 1 = zI (f2 v a s) := by rw [hτ, pu_at]; rfl
    have hd : f_X5_deviation (zI (f2 v a s)) (zI (aCr v 0 (aRd v 0 a) s)) (zI (aCr v 1 (aRd v 1 a) s)) (zI (aCr v 2 (aRd v 2 a) s)) τ = zI (d2 v a s) := dev_C ⟨(f2_b v a s).1, by have := (f2_b v a s).2; omega⟩ (rdg_cr _ _ _ _ _)
    rw [t1, hd] at e'
    refine ⟨by rw [e', pu_un (by omega), t1], by rw [e', pu_at], ?_⟩
    rw [e', hτ]
    exact (fr.pu (by decide)).tr (fr.pu (by decide))
theorem se_C {σ : Sg} {v : Nat → Int} {N : Int} {a : Int} (h : NC σ v) (hv : VS N v) (ha : 0 ≤ a ∧ a < 4080) : ok_X1_search (zI a) σ ∧ ∀ σ' : Sg, σ' = f_X1_search (zI a) σ → σ' 28 0 = zI (f1 v a) ∧ σ' 28 1 = zI (fL v a) ∧ σ' 28 2 = zI (fD v a) ∧ σ' 28 3 = zI (fN v a) ∧ fr 28 [0, 1, 2, 3] σ σ' := by
  have R := fun (t : Nat) (ht : t < 3) => rd_C h hv ht ha
  have r0 : ok_X3_readingAt 0 (zI a) σ ∧ f_X3_readingAt 0 (zI a) σ = zI (aRd v 0 a) := R 0 (by omega)
  have r1 : ok_X3_readingAt 1 (zI a) σ ∧ f_X3_readingAt 1 (zI a) σ = zI (aRd v 1 a) := R 1 (by omega)
  have r2 : ok_X3_readingAt 2 (zI a) σ ∧ f_X3_readingAt 2 (zI a) σ = zI (aRd v 2 a) := R 2 (by omega)
  have nr := near_C (σ := σ) (rdg_rd v a)
  have b1 := f1_b v a
  have sb1 := sec_b b1
  obtain ⟨τ, hτ⟩ : ∃ τ : Sg, τ = pu σ 28 0 (zI (f1 v a)) := ⟨_, rfl⟩
  have t0 : τ 28 0 = zI (f1 v a) := by rw [hτ, pu_at]
  have tf : fr 28 [0, 1, 2, 3] σ τ := by rw [hτ]; exact fr.pu (by decide)
  have hc := sc_C (tf.nc h) hv ha sb1.1
  have e1 : f_X5_sectorOf (τ 28 0) τ = zI (sec (f1 v a)) := by
    rw [t0]
    exact secI b1
  obtain ⟨u, hu⟩ : ∃ u : Sg, u = f_X1_searchCorrected (zI a) (zI (sec (f1 v a))) τ := ⟨_, rfl⟩
  obtain ⟨u1, u2, u3⟩ := hc.2 u hu
  obtain ⟨w, hw⟩ : ∃ w : Sg, w = pu u 28 3 2 := ⟨_, rfl⟩
  have w1 : w 28 1 = zI (f2 v a (sec (f1 v a))) := by rw [hw, pu_un (by omega), u1]
  have w2 : w 28 2 = zI (d2 v a (sec (f1 v a))) := by rw [hw, pu_un (by omega), u2]
  have w0 : w 28 0 = zI (f1 v a) := by rw [hw, pu_un (by omega), u3.2 0 (by decide), t0]
  have w3 : w 28 3 = zI 2 := by rw [hw, pu_at]; rfl
  have wf : fr 28 [0, 1, 2, 3] σ w := by
    rw [hw]
    exact (tf.tr (u3.up (by decide))).tr (fr.pu (by decide))
  have b2 := f2_b v a (sec (f1 v a))
  have sb2 := sec_b b2
  have e2 : f_X5_sectorOf (w 28 1) w = zI (sec (f2 v a (sec (f1 v a)))) := by
    rw [w1]
    exact secI b2
  have e3 : (zI (sec (f2 v a (sec (f1 v a))) : Int) = zI (sec (f1 v a) : Int)) ↔ sec (f2 v a (sec (f1 v a))) = sec (f1 v a) := by
    rw [z_eq (by unfold zB; omega) (by unfold zB; omega)]
    omega
  have hc2 := sc_C (wf.nc h) hv ha sb2.1
  constructor
  · unfold ok_X1_search
    rw [r0.2, r1.2, r2.2, nr.2]
    refine ⟨r0.1, r1.1, r2.1, nr.1, trivial, ?_⟩
    show ok_X1_searchCorrected (zI a) (f_X5_sectorOf (pu σ 28 0 (zI (f1 v a)) 28 0) (pu σ 28 0 (zI (f1 v a)))) (pu σ 28 0 (zI (f1 v a))) ∧ _
    rw [← hτ, e1]
    refine ⟨hc.1, trivial, ⟨fun _ => trivial, fun _ => ⟨trivial, ?_⟩⟩⟩
    show ok_X1_searchCorrected (zI a) (f_X5_sectorOf (pu (f_X1_searchCorrected (zI a) (f_X5_sectorOf (pu σ 28 0 (zI (f1 v a)) 28 0) (pu σ 28 0 (zI (f1 v a)))) (pu σ 28 0 (zI (f1 v a)))) 28 3 2 28 1) (pu (f_X1_searchCorrected (zI a) (f_X5_sectorOf (pu σ 28 0 (zI (f1 v a)) 28 0) (pu σ 28 0 (zI (f1 v a)))) (pu σ 28 0 (zI (f1 v a)))) 28 3 2)) (pu (f_X1_searchCorrected (zI a) (f_X5_sectorOf (pu σ 28 0 (zI (f1 v a)) 28 0) (pu σ 28 0 (zI (f1 v a)))) (pu σ 28 0 (zI (f1 v a)))) 28 3 2) ∧ _
    rw [← hτ, e1, ← hu, ← hw, e2]
    exact ⟨hc2.1, trivial⟩
  · intro σ' e
    unfold f_X1_search at e
    rw [r0.2, r1.2, r2.2, nr.2] at e
    have e' : σ' = o_ite (f_X5_sectorOf (pu (f_X1_searchCorrected (zI a) (f_X5_sectorOf (pu σ 28 0 (zI (f1 v a)) 28 0) (pu σ 28 0 (zI (f1 v a)))) (pu σ 28 0 (zI (f1 v a)))) 28 3 2 28 1) (pu (f_X1_searchCorrected (zI a) (f_X5_sectorOf (pu σ 28 0 (zI (f1 v a)) 28 0) (pu σ 28 0 (zI (f1 v a)))) (pu σ 28 0 (zI (f1 v a)))) 28 3 2) = f_X5_sectorOf (pu σ 28 0 (zI (f1 v a)) 28 0) (pu σ 28 0 (zI (f1 v a)))) (pu (f_X1_searchCorrected (zI a) (f_X5_sectorOf (pu σ 28 0 (zI (f1 v a)) 28 0) (pu σ 28 0 (zI (f1 v a)))) (pu σ 28 0 (zI (f1 v a)))) 28 3 2) (pu (f_X1_searchCorrected (zI a) (f_X5_sectorOf (pu (f_X1_searchCorrected (zI a) (f_X5_sectorOf (pu σ 28 0 (zI (f1 v a)) 28 0) (pu σ 28 0 (zI (f1 v a)))) (pu σ 28 0 (zI (f1 v a)))) 28 3 2 28 1) (pu (f_X1_searchCorrected (zI a) (f_X5_sectorOf (pu σ 28 0 (zI (f1 v a)) 28 0) (pu σ 28 0 (zI (f1 v a)))) (pu σ 28 0 (zI (f1 v a)))) 28 3 2)) (pu (f_X1_searchCorrected (zI a) (f_X5_sectorOf (pu σ 28 0 (zI (f1 v a)) 28 0) (pu σ 28 0 (zI (f1 v a)))) (pu σ 28 0 (zI (f1 v a)))) 28 3 2)) 28 3 3) := e
    rw [← hτ, e1, ← hu, ← hw, e2, it_iff e3] at e'
    by_cases q : sec (f2 v a (sec (f1 v a))) = sec (f1 v a)
    · rw [itp q] at e'
      subst e'
      have hS : fS v a = sec (f1 v a) := if_pos q
      refine ⟨w0, by rw [w1]; unfold fL; rw [hS], by rw [w2]; unfold fD; rw [hS], by rw [w3]; unfold fN; rw [if_pos q], wf⟩
    · rw [itn q] at e'
      have hS : fS v a = sec (f2 v a (sec (f1 v a))) := if_neg q
      obtain ⟨x1, x2, x3⟩ := hc2.2 _ rfl
      rw [e']
      refine ⟨by rw [pu_un (by omega), x3.2 0 (by decide), w0], by rw [pu_un (by omega), x1]; unfold fL; rw [hS], by rw [pu_un (by omega), x2]; unfold fD; rw [hS], by rw [pu_at]; unfold fN; rw [if_neg q]; rfl, ?_⟩
      exact (wf.tr (x3.up (by decide))).tr (fr.pu (by decide))
