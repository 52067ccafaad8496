set_option linter.all false
theorem z_s (i : Nat) : zI (i : Int) + 1 = zI ((i + 1 : Nat) : Int) := z_add i 1
theorem saves50 : ∀ (n i m : Nat) (σ : Sg), i ≤ 62 → 62 - i < n → m < 4 → σ 34 2 = zI m →
    ok_X6_saves_50 n (zI i) σ ∧ ∀ σ' : Sg, σ' = f_X6_saves_50 n (zI i) σ → (∀ c, c ≠ 34 → c ≠ 36 → σ' c = σ c) ∧ (∀ k, k ≠ 2 → σ' 34 k = σ 34 k) ∧ σ' 34 2 = zI ((m + 1 : Nat) : Int) ∧ (∀ k, (k < 62 * m + i ∨ 62 * m + 62 ≤ k) → σ' 36 k = σ 36 k) ∧ ∀ k, i ≤ k → k < 62 → σ' 36 (62 * m + k) = σ 35 k := by
  intro n
  induction n with
  | zero => intro i m σ h1 h2; omega
  | succ n ih =>
    intro i m σ h1 h2 h3 hm
    have e0 : ((62 : Int32) ≤ zI i) ↔ 62 ≤ i := by
      rw [z_n, z_le (by unfold zB; omega) (by unfold zB; omega)]
      omega
    by_cases q : 62 ≤ i
    · refine ⟨⟨fun _ => trivial, fun c => absurd (e0.mpr q) c⟩, fun σ' e => ?_⟩
      have e' : σ' = o_ite _ (pu σ 34 2 (σ 34 2 + 1)) _ := e
      rw [itp (e0.mpr q)] at e'
      subst e'
      refine ⟨fun c c1 c2 => pu_ne c1, fun k hk => pu_un (by omega), ?_, fun k hk => by rw [pu_ne (by omega)], fun k k1 k2 => by omega⟩
      rw [pu_at, hm]
      exact z_s m
    · have en : (zI (i : Int)).toNatClampNeg = i := by rw [z_nat (by unfold zB; omega)]; omega
      have ex : 62 * σ 34 2 + zI i = zI ((62 * m + i : Nat) : Int) := by
        rw [hm, show (62 : Int32) = zI 62 from rfl, z_mul, z_add]
        congr 1
      have ek : (62 * σ 34 2 + zI i).toNatClampNeg = 62 * m + i := by rw [ex, z_nat (by unfold zB; omega)]; omega
      have k := ih (i + 1) m (pu σ 36 (62 * m + i) (σ 35 i)) (by omega) (by omega) h3 (by rw [pu_un (by omega), hm])
      have hok : ok_X6_saves_50 n (zI i + 1) (pu σ 36 (62 * σ 34 2 + zI i).toNatClampNeg (σ 35 (zI (i : Int)).toNatClampNeg)) := by
        rw [en, ek, z_s]
        exact k.1
      refine ⟨⟨fun c => absurd (e0.mp c) q, fun _ => ⟨z_in (by omega) (by omega) (by omega), by rw [ex]; exact z_in (by omega) (by omega) (by omega), hok⟩⟩, fun σ' e => ?_⟩
      have e' : σ' = o_ite _ _ (f_X6_saves_50 n (zI i + 1) (pu σ 36 (62 * σ 34 2 + zI i).toNatClampNeg (σ 35 (zI (i : Int)).toNatClampNeg))) := e
      rw [itn (fun c => q (e0.mp c)), en, ek, z_s] at e'
      obtain ⟨k1, k2, k3, k4, k5⟩ := k.2 σ' e'
      refine ⟨fun c c1 c2 => by rw [k1 c c1 c2, pu_ne c2], fun j hj => by rw [k2 j hj, pu_ne (by omega)], k3, fun j hj => by rw [k4 j (by omega), pu_un (by omega)], fun j j1 j2 => ?_⟩
      by_cases qq : j = i
      · subst qq
        rw [k4 (62 * m + j) (by omega), pu_at]
      · rw [k5 j (by omega) j2, pu_ne (by omega)]
theorem saves10 : ∀ (n i : Nat) (σ : Sg), i ≤ 186 → 186 - i < n → σ 34 2 = zI 4 →
    ok_X6_saves_10 n (zI i) σ ∧ ∀ σ' : Sg, σ' = f_X6_saves_10 n (zI i) σ → ∃ τ : Sg, σ' = f_X6_saves_50 oF (zI ((0 : Nat) : Int)) τ ∧ (∀ c, c ≠ 34 → c ≠ 36 → τ c = σ c) ∧ (∀ k, k ≠ 2 → τ 34 k = σ 34 k) ∧ τ 34 2 = zI ((3 : Nat) : Int) ∧ (∀ k, k < i → τ 36 k = σ 36 k) ∧ ∀ k, i ≤ k → k < 186 → τ 36 k = σ 36 (k + 62) := by
  intro n
  induction n with
  | zero => intro i σ h1 h2; omega
  | succ n ih =>
    intro i σ h1 h2 hm
    have e0 : ((186 : Int32) ≤ zI i) ↔ 186 ≤ i := by
      rw [z_n, z_le (by unfold zB; omega) (by unfold zB; omega)]
      omega
    by_cases q : 186 ≤ i
    · have t2 : pu σ 34 2 (σ 34 2 - 1) 34 2 = zI ((3 : Nat) : Int) := by
        rw [pu_at, hm]
        exact z_sub 4 1
      have k := saves50 oF 0 3 (pu σ 34 2 (σ 34 2 - 1)) (by omega) (by rw [oF_eq]; omega) (by omega) t2
      refine ⟨⟨fun _ => k.1, fun c => absurd (e0.mpr q) c⟩, fun σ' e => ⟨pu σ 34 2 (σ 34 2 - 1), ?_, fun c c1 c2 => pu_ne c1, fun k hk => pu_un (by omega), t2, fun k hk => by rw [pu_ne (by omega)], fun k k1 k2 => by omega⟩⟩
      have e' : σ' = o_ite _ (f_X6_saves_50 oF 0 (pu σ 34 2 (σ 34 2 - 1))) _ := e
      rw [itp (e0.mpr q)] at e'
      exact e'
    · have en : (zI (i : Int)).toNatClampNeg = i := by rw [z_nat (by unfold zB; omega)]; omega
      have ex : zI (i : Int) + 62 = zI ((i + 62 : Nat) : Int) := z_add i 62
      have ek : (zI (i : Int) + 62).toNatClampNeg = i + 62 := by rw [ex, z_nat (by unfold zB; omega)]; omega
      have k := ih (i + 1) (pu σ 36 i (σ 36 (i + 62))) (by omega) (by omega) (by rw [pu_un (by omega), hm])
      have hok : ok_X6_saves_10 n (zI i + 1) (pu σ 36 (zI (i : Int)).toNatClampNeg (σ 36 (zI (i : Int) + 62).toNatClampNeg)) := by
        rw [en, ek, z_s]
        exact k.1
      refine ⟨⟨fun c => absurd (e0.mp c) q, fun _ => ⟨by rw [ex]; exact z_in (by omega) (by omega) (by omega), z_in (by omega) (by omega) (by omega), hok⟩⟩, fun σ' e => ?_⟩
      have e' : σ' = o_ite _ _ (f_X6_saves_10 n (zI i + 1) (pu σ 36 (zI (i : Int)).toNatClampNeg (σ 36 (zI (i : Int) + 62).toNatClampNeg))) := e
      rw [itn (fun c => q (e0.mp c)), en, ek, z_s] at e'
      obtain ⟨τ, k0, k1, k2, k3, k4, k5⟩ := k.2 σ' e'
      refine ⟨τ, k0, fun c c1 c2 => by rw [k1 c c1 c2, pu_ne c2], fun j hj => by rw [k2 j hj, pu_ne (by omega)], k3, fun j hj => by rw [k4 j (by omega), pu_un (by omega)], fun j j1 j2 => ?_⟩
      by_cases qq : j = i
      · subst qq
        rw [k4 j (by omega), pu_at]
      · rw [k5 j (by omega) j2, pu_un (by omega)]
theorem saves_M {σ : Sg} {v : Nat → Int} {n : Nat} {hs : Nat → Nat → Int} {L : Nat} {tx : Nat → Int} (h : AM σ v n hs L tx) (hn : n ≤ 4) : ok_X6_saves σ ∧ ∀ σ' : Sg, σ' = f_X6_saves σ → AM σ' v (pn n) (ph n hs v) L tx ∧ (∀ c, c ≠ 34 → c ≠ 36 → σ' c = σ c) ∧ ∀ k, k ≠ 2 → σ' 34 k = σ 34 k := by
  obtain ⟨a1, a2, a3, a4, a5⟩ := h
  have e4 : (σ 34 2 = 4) ↔ n = 4 := by
    rw [a2, z_n, z_eq (by unfold zB; omega) (by unfold zB; omega)]
    omega
  by_cases q : n = 4
  · subst q
    have k := saves10 oF 0 σ (by omega) (by rw [oF_eq]; omega) a2
    refine ⟨⟨fun _ => k.1, fun c => absurd (e4.mpr rfl) c⟩, fun σ' e => ?_⟩
    have e' : σ' = o_ite _ (f_X6_saves_10 oF 0 σ) _ := e
    rw [itp (e4.mpr rfl)] at e'
    obtain ⟨τ, t0, t1, t2, t3, t4, t5⟩ := k.2 σ' e'
    obtain ⟨c1, c2, c3, c4, c5⟩ := (saves50 oF 0 3 τ (by omega) (by rw [oF_eq]; omega) (by omega) t3).2 σ' t0
    have F : ∀ c, c ≠ 34 → c ≠ 36 → σ' c = σ c := fun c q1 q2 => by rw [c1 c q1 q2, t1 c q1 q2]
    have F2 : ∀ k, k ≠ 2 → σ' 34 k = σ 34 k := fun k hk => by rw [c2 k hk, t2 k hk]
    refine ⟨⟨fun k hk => by rw [F 35 (by omega) (by omega), a1 k hk], c3, fun j hj k hk => ?_, by rw [F2 4 (by omega), a4], fun k hk => by rw [F 37 (by omega) (by omega), a5 k hk]⟩, F, F2⟩
    have hj4 : j < 4 := hj
    unfold ph
    rw [if_pos rfl]
    by_cases qj : j < 3
    · rw [if_pos qj, c4 _ (by omega), t5 _ (by omega) (by omega), show 62 * j + k + 62 = 62 * (j + 1) + k by omega, a3 (j + 1) (by omega) k hk]
    · rw [if_neg qj, show j = 3 by omega, c5 k (by omega) hk, t1 35 (by omega) (by omega), a1 k hk]
  · have k := saves50 oF 0 n σ (by omega) (by rw [oF_eq]; omega) (by omega) a2
    refine ⟨⟨fun c => absurd (e4.mp c) q, fun _ => k.1⟩, fun σ' e => ?_⟩
    have e' : σ' = o_ite _ _ (f_X6_saves_50 oF 0 σ) := e
    rw [itn (fun c => q (e4.mp c))] at e'
    obtain ⟨c1, c2, c3, c4, c5⟩ := k.2 σ' e'
    refine ⟨⟨fun k hk => by rw [c1 35 (by omega) (by omega), a1 k hk], by rw [c3]; unfold pn; rw [if_neg q], fun j hj k hk => ?_, by rw [c2 4 (by omega), a4], fun k hk => by rw [c1 37 (by omega) (by omega), a5 k hk]⟩, c1, c2⟩
    unfold pn at hj
    rw [if_neg q] at hj
    unfold ph
    rw [if_neg q]
    by_cases qj : j = n
    · rw [if_pos qj, qj, c5 k (by omega) hk, a1 k hk]
    · rw [if_neg qj, c4 _ (by omega), a3 j (by omega) k hk]
/-- undo -/
theorem undo_C {σ : Sg} {v : Nat → Int} {n : Nat} {hs : Nat → Nat → Int} {L : Nat} {tx : Nat → Int} (h : AC σ v n hs L tx) (hn : n ≤ 4) (hv : ∀ j, j < n → hs j 1 = 0 ∨ hs j 1 = 1) : ok_X5_undo σ ∧ (n = 0 → f_X5_undo σ = (-2, σ)) ∧ (0 < n → ∀ q : Int32 × Sg, q = f_X5_undo σ → q.1 = zI ((n - 1 : Nat) : Int) ∧ AC q.2 (hs (n - 1)) (n - 1) hs L tx ∧ ∀ c, 28 ≤ c → q.2 c = σ c) := by
  obtain ⟨a1, a2, ⟨o, ho, a3, a4⟩, a5, a6⟩ := h
  have e0 : (σ 6 2 = 0) ↔ n = 0 := by
    rw [a2, z_0, z_eq (by unfold zB; omega) (by unfold zB; omega)]
    omega
  by_cases q : n = 0
  · refine ⟨⟨fun _ => trivial, fun c => absurd (e0.mpr q) c⟩, fun _ => ?_, fun c => by omega⟩
    unfold f_X5_undo
    rw [itp (e0.mpr q)]
  · have es : σ 6 2 - 1 = zI ((n - 1 : Nat) : Int) := by
      rw [a2, show (1 : Int32) = zI 1 from rfl, z_sub]
      congr 1
      omega
    obtain ⟨s1, s2⟩ := slot_C (σ := σ) ho (show n - 1 < 5 by omega) a3
    rw [← es] at s1 s2
    have lo := hb_lo o (n - 1)
    have hbool : σ (hb o (n - 1)) 2 = 0 ∨ σ (hb o (n - 1)) 2 = 1 := by
      have h1 : σ (hb o (n - 1)) 2 = zI (hs (n - 1) 1) := a4 (n - 1) (by omega) 1 (by omega)
      rcases hv (n - 1) (by omega) with q | q
      · exact Or.inl (by rw [h1, q]; rfl)
      · exact Or.inr (by rw [h1, q]; rfl)
    obtain ⟨b1, b2⟩ := cf_C (σ := σ) (Or.inl rfl : o_st 1) (hb_st o (n - 1)) (by omega) hbool
    obtain ⟨c1, c2⟩ := b2 _ rfl
    have hokr : ok_X2_restoreLatest σ := by
      unfold ok_X2_restoreLatest
      rw [s2]
      exact ⟨s1, hb_st o (n - 1), b1, trivial⟩
    refine ⟨⟨fun c => absurd (e0.mp c) q, fun _ => ⟨hokr, trivial⟩⟩, fun c => absurd c q, fun _ p e => ?_⟩
    obtain ⟨τ, hτ⟩ : ∃ τ : Sg, τ = pu (f_X3_copyFrom 1 (hb o (n - 1)) σ) 6 2 (f_X3_copyFrom 1 (hb o (n - 1)) σ 6 2 - 1) := ⟨_, rfl⟩
    have er : f_X2_restoreLatest σ = τ := by
      unfold f_X2_restoreLatest
      rw [s2, hτ]
    have e' : p = o_ite _ _ (f_X2_restoreLatest σ 6 2, f_X2_restoreLatest σ) := e
    rw [itn (fun c => q (e0.mp c)), er] at e'
    subst e'
    have e6 := c1 6 (by omega)
    have F0 : ∀ c, c ≠ 6 → τ c = f_X3_copyFrom 1 (hb o (n - 1)) σ c := fun c hc => by rw [hτ, pu_ne hc]
    have F : ∀ c, 6 < c → τ c = σ c := fun c hc => by rw [F0 c (by omega), c1 c (by omega)]
    have t2 : τ 6 2 = zI ((n - 1 : Nat) : Int) := by rw [hτ, pu_at, e6, es]
    have t1 : τ 6 1 = zI o := by rw [hτ, pu_un (by omega), e6, a3]
    refine ⟨t2, ⟨fun k hk => ?_, t2, ⟨o, ho, t1, fun j hj k hk => ?_⟩, ?_, fun k hk => ?_⟩, fun c hc => F c (by omega)⟩
    · show vw τ 1 k = _
      rw [vw_same (σ := f_X3_copyFrom 1 (hb o (n - 1)) σ) (fun c q1 q2 => F0 c (by omega)), c2 k hk, a4 (n - 1) (by omega) k hk]
    · show vw τ _ k = _
      have lj := hb_lo o j
      rw [← a4 j (by omega) k hk]
      exact vw_same (fun c q1 q2 => F c (by omega)) k
    · show τ 30 1 = _
      rw [F 30 (by omega), a5]
    · show τ 31 k = _
      rw [F 31 (by omega), a6 k hk]
theorem undo22 : ∀ (n i m : Nat) (σ : Sg), i ≤ 62 → 62 - i < n → m < 4 → σ 34 2 = zI m →
    ok_X6_undo_22 n (zI i) σ ∧ ∀ q : Int32 × Sg, q = f_X6_undo_22 n (zI i) σ → q.1 = zI m ∧ (∀ c, c ≠ 35 → q.2 c = σ c) ∧ (∀ k, k < i → q.2 35 k = σ 35 k) ∧ ∀ k, i ≤ k → k < 62 → q.2 35 k = σ 36 (62 * m + k) := by
  intro n
  induction n with
  | zero => intro i m σ h1 h2; omega
  | succ n ih =>
    intro i m σ h1 h2 h3 hm
    have e0 : ((62 : Int32) ≤ zI i) ↔ 62 ≤ i := by
      rw [z_n, z_le (by unfold zB; omega) (by unfold zB; omega)]
      omega
    by_cases q : 62 ≤ i
    · refine ⟨⟨fun _ => trivial, fun c => absurd (e0.mpr q) c⟩, fun p e => ?_⟩
      have e' : p = o_ite _ (σ 34 2, σ) _ := e
      rw [itp (e0.mpr q)] at e'
      subst e'
      exact ⟨hm, fun c c1 => rfl, fun k hk => rfl, fun k k1 k2 => by omega⟩
    · have en : (zI (i : Int)).toNatClampNeg = i := by rw [z_nat (by unfold zB; omega)]; omega
      have ex : 62 * σ 34 2 + zI i = zI ((62 * m + i : Nat) : Int) := by
        rw [hm, show (62 : Int32) = zI 62 from rfl, z_mul, z_add]
        congr 1
      have ek : (62 * σ 34 2 + zI i).toNatClampNeg = 62 * m + i := by rw [ex, z_nat (by unfold zB; omega)]; omega
      have k := ih (i + 1) m (pu σ 35 i (σ 36 (62 * m + i))) (by omega) (by omega) h3 (by rw [pu_un (by omega), hm])
      have hok : ok_X6_undo_22 n (zI i + 1) (pu σ 35 (zI (i : Int)).toNatClampNeg (σ 36 (62 * σ 34 2 + zI i).toNatClampNeg)) := by
        rw [en, ek, z_s]
        exact k.1
      refine ⟨⟨fun c => absurd (e0.mp c) q, fun _ => ⟨by rw [ex]; exact z_in (by omega) (by omega) (by omega), z_in (by omega) (by omega) (by omega), hok⟩⟩, fun p e => ?_⟩
      have e' : p = o_ite _ _ (f_X6_undo_22 n (zI i + 1) (pu σ 35 (zI (i : Int)).toNatClampNeg (σ 36 (62 * σ 34 2 + zI i).toNatClampNeg))) := e
      rw [itn (fun c => q (e0.mp c)), en, ek, z_s] at e'
      obtain ⟨k1, k2, k3, k4⟩ := k.2 p e'
      refine ⟨k1, fun c c1 => by rw [k2 c c1, pu_ne c1], fun j hj => by rw [k3 j (by omega), pu_un (by omega)], fun j j1 j2 => ?_⟩
      by_cases qq : j = i
      · subst qq
        rw [k3 j (by omega), pu_at]
      · rw [k4 j (by omega) j2, pu_ne (by omega)]
theorem undo_M {σ : Sg} {v : Nat → Int} {n : Nat} {hs : Nat → Nat → Int} {L : Nat} {tx : Nat → Int} (h : AM σ v n hs L tx) (hn : n ≤ 4) : ok_X6_undo σ ∧ (n = 0 → f_X6_undo σ = (-2, σ)) ∧ (0 < n → ∀ q : Int32 × Sg, q = f_X6_undo σ → q.1 = zI ((n - 1 : Nat) : Int) ∧ AM q.2 (hs (n - 1)) (n - 1) hs L tx ∧ ∀ c, c < 34 → q.2 c = σ c) := by
  obtain ⟨a1, a2, a3, a4, a5⟩ := h
  have e0 : (σ 34 2 = 0) ↔ n = 0 := by
    rw [a2, z_0, z_eq (by unfold zB; omega) (by unfold zB; omega)]
    omega
  by_cases q : n = 0
  · refine ⟨⟨fun _ => trivial, fun c => absurd (e0.mpr q) c⟩, fun _ => ?_, fun c => by omega⟩
    unfold f_X6_undo
    rw [itp (e0.mpr q)]
  · have es : σ 34 2 - 1 = zI ((n - 1 : Nat) : Int) := by
      rw [a2, show (1 : Int32) = zI 1 from rfl, z_sub]
      congr 1
      omega
    obtain ⟨k1, k2⟩ := undo22 oF 0 (n - 1) (pu σ 34 2 (σ 34 2 - 1)) (by omega) (by rw [oF_eq]; omega) (by omega) (by rw [pu_at, es])
    refine ⟨⟨fun c => absurd (e0.mp c) q, fun _ => k1⟩, fun c => absurd c q, fun _ p e => ?_⟩
    have e' : p = o_ite _ _ (f_X6_undo_22 oF 0 (pu σ 34 2 (σ 34 2 - 1))) := e
    rw [itn (fun c => q (e0.mp c))] at e'
    obtain ⟨c1, c2, c3, c4⟩ := k2 p e'
    refine ⟨c1, ⟨fun k hk => ?_, ?_, fun j hj k hk => ?_, ?_, fun k hk => ?_⟩, fun c hc => by rw [c2 c (by omega), pu_ne (by omega)]⟩
    · rw [c4 k (by omega) hk, pu_ne (by omega), a3 (n - 1) (by omega) k hk]
    · rw [c2 34 (by omega), pu_at, es]
    · rw [c2 36 (by omega), pu_ne (by omega), a3 j (by omega) k hk]
    · rw [c2 34 (by omega), pu_un (by omega), a4]
    · rw [c2 37 (by omega), pu_ne (by omega), a5 k hk]
