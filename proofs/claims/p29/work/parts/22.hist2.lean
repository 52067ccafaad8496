set_option linter.all false
theorem z_s (i : Nat) : zI (i : Int) + 1 = zI ((i + 1 : Nat) : Int) := z_add i 1
theorem undo_C {σ : Sg} {v : Nat → Int} {n : Nat} {hs : Nat → Nat → Int} {L : Nat} {tx : Nat → Int} (h : AC σ v n hs L tx) (hn : n ≤ 4) (hv : ∀ j, j < n → hs j 1 = 0 ∨ hs j 1 = 1) : ok_X5_undo σ ∧ (n = 0 → f_X5_undo σ = (-2, σ)) ∧ (0 < n → ∀ q : Int32 × Sg, q = f_X5_undo σ → q.1 = zI ((n - 1 : Nat) : Int) ∧ AC q.2 (hs (n - 1)) (n - 1) hs L tx ∧ ∀ c, 28 ≤ c → q.2 c = σ c) := by
  obtain ⟨a1, a2, ⟨o, ho, a3, a4⟩, a5, a6⟩ := h
  have e0 : (σ 6 2 = 0) ↔ n = 0 := by
    rw [a2, z_0, z_eq (by unfold zB; omega) (by unfold zB; omega)]
    omega
  by_cases q : n = 0
  · refine ⟨⟨fun _ => trivial, fun c => absurd (e0.mpr q) c⟩, fun _ => ?_, fun c => by omega⟩
    unfold f_X5_undo
    rw [itp (e0.mpr q)]
  · have es : σ 6 2 - 1 = zI ((n - 1 : Nat) : Int) := by
      rw [a2, show (1 : Int32) = zI 1 from rfl, z_sub]
      congr 1
      omega
    obtain ⟨s1, s2⟩ := slot_C (σ := σ) ho (show n - 1 < 5 by omega) a3
    rw [← es] at s1 s2
    have lo := hb_lo o (n - 1)
    have hbool : σ (hb o (n - 1)) 2 = 0 ∨ σ (hb o (n - 1)) 2 = 1 := by
      have h1 : σ (hb o (n - 1)) 2 = zI (hs (n - 1) 1) := a4 (n - 1) (by omega) 1 (by omega)
      rcases hv (n - 1) (by omega) with q | q
      · exact Or.inl (by rw [h1, q]; rfl)
      · exact Or.inr (by rw [h1, q]; rfl)
    obtain ⟨b1, b2⟩ := cf_C (σ := σ) (Or.inl rfl : o_st 1) (hb_st o (n - 1)) (by omega) hbool
    obtain ⟨c1, c2⟩ := b2 _ rfl
    have hokr : ok_X2_restoreLatest σ := by
      unfold ok_X2_restoreLatest
      rw [s2]
      exact ⟨s1, hb_st o (n - 1), b1, trivial⟩
    refine ⟨⟨fun c => absurd (e0.mp c) q, fun _ => ⟨hokr, trivial⟩⟩, fun c => absurd c q, fun _ p e => ?_⟩
    obtain ⟨τ, hτ⟩ : ∃ τ : Sg, τ = pu (f_X3_copyFrom 1 (hb o (n - 1)) σ) 6 2 (f_X3_copyFrom 1 (hb o (n - 1)) σ 6 2 - 1) := ⟨_, rfl⟩
    have er : f_X2_restoreLatest σ = τ := by
      unfold f_X2_restoreLatest
      rw [s2, hτ]
    have e' : p = o_ite _ _ (f_X2_restoreLatest σ 6 2, f_X2_restoreLatest σ) := e
    rw [itn (fun c => q (e0.mp c)), er] at e'
    subst e'
    have e6 := c1 6 (by omega)
    have F0 : ∀ c, c ≠ 6 → τ c = f_X3_copyFrom 1 (hb o (n - 1)) σ c := fun c hc => by rw [hτ, pu_ne hc]
    have F : ∀ c, 6 < c → τ c = σ c := fun c hc => by rw [F0 c (by omega), c1 c (by omega)]
    have t2 : τ 6 2 = zI ((n - 1 : Nat) : Int) := by rw [hτ, pu_at, e6, es]
    have t1 : τ 6 1 = zI o := by rw [hτ, pu_un (by omega), e6, a3]
    refine ⟨t2, ⟨fun k hk => ?_, t2, ⟨o, ho, t1, fun j hj k hk => ?_⟩, ?_, fun k hk => ?_⟩, fun c hc => F c (by omega)⟩
    · show vw τ 1 k = _
      rw [vw_same (σ := f_X3_copyFrom 1 (hb o (n - 1)) σ) (fun c q1 q2 => F0 c (by omega)), c2 k hk, a4 (n - 1) (by omega) k hk]
    · show vw τ _ k = _
      have lj := hb_lo o j
      rw [← a4 j (by omega) k hk]
      exact vw_same (fun c q1 q2 => F c (by omega)) k
    · show τ 30 1 = _
      rw [F 30 (by omega), a5]
    · show τ 31 k = _
      rw [F 31 (by omega), a6 k hk]
