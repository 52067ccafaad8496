set_option linter.all false
theorem o_st.apart {b b1 : Nat} (h : o_st b) (h1 : o_st b1) (hne : b ≠ b1) : b + 5 ≤ b1 ∨ b1 + 5 ≤ b := by
  unfold o_st at h h1
  omega
theorem hb_st (o j : Nat) : o_st (hb o j) := by
  unfold hb o_st
  have : (o + j) % 4 < 4 := Nat.mod_lt _ (by omega)
  omega
theorem hb_lo (o j : Nat) : 8 ≤ hb o j ∧ hb o j + 5 ≤ 28 := by
  unfold hb
  have : (o + j) % 4 < 4 := Nat.mod_lt _ (by omega)
  omega
theorem hb_ne {o i j : Nat} (hi : i < 4) (hj : j < 4) (h : i ≠ j) : hb o i ≠ hb o j := by
  unfold hb
  omega
theorem cf_C {b b1 : Nat} {σ : Sg} (h : o_st b) (h1 : o_st b1) (hne : b ≠ b1) (hbool : σ b1 2 = 0 ∨ σ b1 2 = 1) : ok_X3_copyFrom b b1 σ ∧ ∀ σ' : Sg, σ' = f_X3_copyFrom b b1 σ → (∀ c, (c < b ∨ b + 5 ≤ c) → σ' c = σ c) ∧ ∀ k, k < 62 → vw σ' b k = vw σ b1 k := by
  have ap := h.apart h1 hne
  have lb := h.lt
  have lb1 := h1.lt
  have nb : b1 ≠ b := fun e => hne e.symm
  have P : ∀ (τ : Sg) (k : Nat) (x : Int32), (pu τ b k x) b1 = τ b1 := fun τ k x => pu_ne nb
  obtain ⟨s8, e8⟩ : ∃ s8 : Sg, s8 = pu (pu (pu (pu (pu (pu (pu σ b 0 (σ b1 0)) b 1 (σ b1 1)) b 2 (σ b1 2)) b 3 (σ b1 3)) b 4 (σ b1 4)) b 5 (σ b1 5)) b 6 (σ b1 6) := ⟨_, rfl⟩
  have n8 : ∀ c, c ≠ b → s8 c = σ c := fun c hc => by rw [e8]; simp only [pu_ne hc]
  have v8 : ∀ k, k < 7 → s8 b k = σ b1 k := by
    intro k hk
    rw [e8]
    match k, hk with
    | 0, _ => simp [pu]
    | 1, _ => simp [pu]
    | 2, _ => simp [pu]
    | 3, _ => simp [pu]
    | 4, _ => simp [pu]
    | 5, _ => simp [pu]
    | 6, _ => simp [pu]
  obtain ⟨k10, r10⟩ := copy_C (a0 := b1 + 1) (a1 := b + 1) (σ := s8) (by omega) (by rw [h1.a1.2, h.a1.2]) (by rw [h.a1.2]; omega) (by omega)
  obtain ⟨s10, e10⟩ : ∃ s : Sg, s = f_X5_copy (b1 + 1) (b + 1) s8 := ⟨_, rfl⟩
  obtain ⟨p10, q10⟩ := r10 s10 e10
  obtain ⟨k12, r12⟩ := copy_C (a0 := b1 + 2) (a1 := b + 2) (σ := s10) (by omega) (by rw [h1.a2.2, h.a2.2]) (by rw [h.a2.2]; omega) (by omega)
  obtain ⟨s12, e12⟩ : ∃ s : Sg, s = f_X5_copy (b1 + 2) (b + 2) s10 := ⟨_, rfl⟩
  obtain ⟨p12, q12⟩ := r12 s12 e12
  obtain ⟨k14, r14⟩ := copy_C (a0 := b1 + 3) (a1 := b + 3) (σ := s12) (by omega) (by rw [h1.a3.2, h.a3.2]) (by rw [h.a3.2]; omega) (by omega)
  obtain ⟨s14, e14⟩ : ∃ s : Sg, s = f_X5_copy (b1 + 3) (b + 3) s12 := ⟨_, rfl⟩
  obtain ⟨p14, q14⟩ := r14 s14 e14
  obtain ⟨k16, r16⟩ := copy_C (a0 := b1 + 4) (a1 := b + 4) (σ := s14) (by omega) (by rw [h1.a4.2, h.a4.2]) (by rw [h.a4.2]; omega) (by omega)
  rw [h.a1.2] at q10
  rw [h.a2.2] at q12
  rw [h.a3.2] at q14
  constructor
  · unfold ok_X3_copyFrom
    simp only [P]
    rw [← e8, ← e10, ← e12, ← e14]
    exact ⟨z_nb hbool, k10, k12, k14, k16, trivial⟩
  · intro σ' e
    unfold f_X3_copyFrom at e
    simp only [P] at e
    rw [← e8, ← e10, ← e12, ← e14] at e
    obtain ⟨p16, q16⟩ := r16 σ' e
    rw [h.a4.2] at q16
    have D : ∀ c, c ≠ b → c ≠ b + 1 → c ≠ b + 2 → c ≠ b + 3 → c ≠ b + 4 → σ' c = σ c := fun c c0 c1 c2 c3 c4 => by rw [p16 c c4, p14 c c3, p12 c c2, p10 c c1, n8 c c0]
    refine ⟨fun c hc => D c (by omega) (by omega) (by omega) (by omega) (by omega), ?_⟩
    refine vw_c (fun k hk => ?_) (fun k hk => ?_) (fun k hk => ?_) (fun k hk => ?_) (fun k hk => ?_)
    · rw [p16 b (by omega), p14 b (by omega), p12 b (by omega), p10 b (by omega), v8 k hk]
    · rw [p16 (b + 1) (by omega), p14 (b + 1) (by omega), p12 (b + 1) (by omega), q10 k hk, n8 (b1 + 1) (by omega)]
    · rw [p16 (b + 2) (by omega), p14 (b + 2) (by omega), q12 k hk, p10 (b1 + 2) (by omega), n8 (b1 + 2) (by omega)]
    · rw [p16 (b + 3) (by omega), q14 k hk, p12 (b1 + 3) (by omega), p10 (b1 + 3) (by omega), n8 (b1 + 3) (by omega)]
    · rw [q16 k hk, p14 (b1 + 4) (by omega), p12 (b1 + 4) (by omega), p10 (b1 + 4) (by omega), n8 (b1 + 4) (by omega)]
theorem slot_C {o j : Nat} {σ : Sg} (ho : o < 4) (hj : j < 5) (h : σ 6 1 = zI o) : ok_X2_slot (zI j) σ ∧ f_X2_slot (zI j) σ = hb o j := by
  have er : f_X5_remainder (σ 6 1 + zI j) 4 σ = zI ((((o + j) % 4 : Nat)) : Int) := by
    rw [h, z_add]
    have := rem_C (a := (o : Int) + j) (d := 4) (σ := σ) (by unfold zB; omega) (by omega) (by omega)
    rw [show (4 : Int32) = zI 4 from rfl, this]
    congr 1
  have b4 : (o + j) % 4 < 4 := Nat.mod_lt _ (by omega)
  have c1 : ¬ (zI ((((o + j) % 4 : Nat)) : Int) < 0) := by
    rw [z_0, z_lt (by unfold zB; omega) (by unfold zB; omega)]
    omega
  have c2 : ¬ ((4 : Int32) ≤ zI ((((o + j) % 4 : Nat)) : Int)) := by
    rw [z_n, z_le (by unfold zB; omega) (by unfold zB; omega)]
    omega
  constructor
  · unfold ok_X2_slot
    rw [er]
    exact ⟨rem_ok, ⟨fun c => absurd c c1, fun _ => ⟨fun c => absurd c c2, fun _ => ⟨z_in (by omega) (by omega) (by omega), trivial⟩⟩⟩⟩
  · unfold f_X2_slot
    rw [er, itn c1, itn c2, z_nat (by unfold zB; omega)]
    unfold hb
    omega
theorem keep32_C {o m : Nat} {σ : Sg} (ho : o < 4) (hm : m < 4) (h1 : σ 6 1 = zI o) (h2 : σ 6 2 = zI m) (hbool : σ 1 2 = 0 ∨ σ 1 2 = 1) : ok_X2_keep_32 σ ∧ ∀ σ' : Sg, σ' = f_X2_keep_32 σ → (∀ c, c ≠ 6 → (c < hb o m ∨ hb o m + 5 ≤ c) → σ' c = σ c) ∧ σ' 6 1 = zI o ∧ σ' 6 2 = zI ((m + 1 : Nat) : Int) ∧ ∀ k, k < 62 → vw σ' (hb o m) k = vw σ 1 k := by
  obtain ⟨a1, a2⟩ := slot_C (σ := σ) ho (show m < 5 by omega) h1
  have lo := hb_lo o m
  obtain ⟨b1, b2⟩ := cf_C (σ := σ) (hb_st o m) (Or.inl rfl : o_st 1) (by omega) hbool
  rw [← h2] at a1 a2
  constructor
  · unfold ok_X2_keep_32
    rw [a2]
    exact ⟨a1, hb_st o m, b1, trivial⟩
  · intro σ' e
    unfold f_X2_keep_32 at e
    rw [a2] at e
    obtain ⟨c1, c2⟩ := b2 _ rfl
    have e' : σ' = pu (f_X3_copyFrom (hb o m) 1 σ) 6 2 (f_X3_copyFrom (hb o m) 1 σ 6 2 + 1) := e
    have e6 := c1 6 (by omega)
    have N : ∀ c, c ≠ 6 → σ' c = f_X3_copyFrom (hb o m) 1 σ c := fun c hc => by rw [e', pu_ne hc]
    refine ⟨fun c hc1 hc2 => by rw [N c hc1, c1 c hc2], ?_, ?_, fun k hk => ?_⟩
    · rw [e', pu_un (by omega), e6, h1]
    · rw [e', pu_at, e6, h2]
      exact z_add m 1
    · rw [vw_same (fun c q1 q2 => N c (by omega)), c2 k hk]
theorem keep_C {σ : Sg} {v : Nat → Int} {n : Nat} {hs : Nat → Nat → Int} {L : Nat} {tx : Nat → Int} (h : AC σ v n hs L tx) (hn : n ≤ 4) (hv : v 1 = 0 ∨ v 1 = 1) : ok_X2_keep σ ∧ ∀ σ' : Sg, σ' = f_X2_keep σ → AC σ' v (pn n) (ph n hs v) L tx ∧ ∀ c, (c < 6 ∨ 28 ≤ c) → σ' c = σ c := by
  obtain ⟨a1, a2, ⟨o, ho, a3, a4⟩, a5, a6⟩ := h
  have hbool : σ 1 2 = 0 ∨ σ 1 2 = 1 := by
    have h1 : σ 1 2 = zI (v 1) := a1 1 (by omega)
    rcases hv with q | q
    · exact Or.inl (by rw [h1, q]; rfl)
    · exact Or.inr (by rw [h1, q]; rfl)
  have e4 : (σ 6 2 = 4) ↔ n = 4 := by
    rw [a2, z_n, z_eq (by unfold zB; omega) (by unfold zB; omega)]
    omega
  by_cases q : n = 4
  · subst q
    have er : f_X5_remainder (σ 6 1 + 1) 4 σ = zI ((((o + 1) % 4 : Nat)) : Int) := by
      rw [a3]
      have := rem_C (a := (o : Int) + 1) (d := 4) (σ := σ) (by unfold zB; omega) (by omega) (by omega)
      rw [show (4 : Int32) = zI 4 from rfl, show zI (o : Int) + 1 = zI ((o : Int) + 1) from z_add o 1, this]
      congr 1
    obtain ⟨τ, eτ⟩ : ∃ τ : Sg, τ = pu (pu σ 6 1 (f_X5_remainder (σ 6 1 + 1) 4 σ)) 6 2 (pu σ 6 1 (f_X5_remainder (σ 6 1 + 1) 4 σ) 6 2 - 1) := ⟨_, rfl⟩
    have t1 : τ 6 1 = zI ((((o + 1) % 4 : Nat)) : Int) := by rw [eτ, pu_un (by omega), pu_at, er]
    have t2 : τ 6 2 = zI ((3 : Nat) : Int) := by
      rw [eτ, pu_at, pu_un (by omega), a2]
      exact z_sub 4 1
    have t3 : ∀ c, c ≠ 6 → τ c = σ c := fun c hc => by rw [eτ, pu_ne hc, pu_ne hc]
    have b4 : (o + 1) % 4 < 4 := Nat.mod_lt _ (by omega)
    obtain ⟨k1, k2⟩ := keep32_C b4 (by omega) t1 t2 (by rw [t3 1 (by omega)]; exact hbool)
    constructor
    · exact ⟨fun _ => ⟨rem_ok, by rw [eτ] at k1; exact k1⟩, fun c => absurd (e4.mpr rfl) c⟩
    · intro σ' e
      have e' : σ' = o_ite _ _ _ := e
      rw [itp (e4.mpr rfl)] at e'
      obtain ⟨c1, c2, c3, c4⟩ := k2 σ' (by rw [eτ]; exact e')
      have lo := hb_lo ((o + 1) % 4) 3
      have F : ∀ c, (c < 6 ∨ 28 ≤ c) → σ' c = σ c := fun c hc => by rw [c1 c (by omega) (by omega), t3 c (by omega)]
      refine ⟨⟨fun k hk => ?_, ?_, ⟨(o + 1) % 4, b4, c2, fun j hj k hk => ?_⟩, ?_, fun k hk => ?_⟩, F⟩
      · rw [vw_same (fun c q1 q2 => F c (by omega)), a1 k hk]
      · rw [c3]; rfl
      · have hj4 : j < 4 := hj
        unfold ph
        rw [if_pos rfl]
        by_cases qj : j < 3
        · rw [if_pos qj, ← a4 (j + 1) (by omega) k hk]
          have ehb : hb ((o + 1) % 4) j = hb o (j + 1) := by unfold hb; omega
          rw [ehb]
          have lj := hb_lo o (j + 1)
          have ne := hb_ne (o := (o + 1) % 4) (show j < 4 by omega) (show 3 < 4 by omega) (by omega)
          have ap := (hb_st ((o + 1) % 4) j).apart (hb_st ((o + 1) % 4) 3) ne
          rw [ehb] at ap
          exact vw_same (fun c q1 q2 => by rw [c1 c (by omega) (by omega), t3 c (by omega)]) k
        · rw [if_neg qj, show j = 3 by omega, c4 k hk, vw_same (fun c q1 q2 => t3 c (by omega)), a1 k hk]
      · rw [F 30 (by omega), a5]
      · rw [F 31 (by omega), a6 k hk]
  · obtain ⟨k1, k2⟩ := keep32_C (σ := σ) ho (show n < 4 by omega) a3 a2 hbool
    constructor
    · exact ⟨fun c => absurd (e4.mp c) q, fun _ => k1⟩
    · intro σ' e
      have e' : σ' = o_ite _ _ _ := e
      rw [itn (fun c => q (e4.mp c))] at e'
      obtain ⟨c1, c2, c3, c4⟩ := k2 σ' e'
      have lo := hb_lo o n
      have F : ∀ c, (c < 6 ∨ 28 ≤ c) → σ' c = σ c := fun c hc => c1 c (by omega) (by omega)
      refine ⟨⟨fun k hk => ?_, ?_, ⟨o, ho, c2, fun j hj k hk => ?_⟩, ?_, fun k hk => ?_⟩, F⟩
      · rw [vw_same (fun c q1 q2 => F c (by omega)), a1 k hk]
      · rw [c3]; unfold pn; rw [if_neg q]
      · unfold pn at hj
        rw [if_neg q] at hj
        unfold ph
        rw [if_neg q]
        by_cases qj : j = n
        · rw [if_pos qj, qj, c4 k hk, a1 k hk]
        · rw [if_neg qj, ← a4 j (by omega) k hk]
          have lj := hb_lo o j
          have ap := (hb_st o j).apart (hb_st o n) (hb_ne (by omega) (by omega) qj)
          exact vw_same (fun c q1 q2 => c1 c (by omega) (by omega)) k
      · rw [F 30 (by omega), a5]
      · rw [F 31 (by omega), a6 k hk]

