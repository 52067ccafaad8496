set_option linter.all false
/-! one call on both sides -/
def TX (L : Nat) (tx : Nat → Int) : Prop := ∀ k, k < L → 32 ≤ tx k ∧ tx k ≤ 126
theorem AC.fr {σ σ' : Sg} {v : Nat → Int} {n : Nat} {hs : Nat → Nat → Int} {L : Nat} {tx : Nat → Int} (h : AC σ v n hs L tx) (h1 : ∀ c, c < 28 → σ' c = σ c) (h2 : σ' 30 1 = σ 30 1) (h3 : σ' 31 = σ 31) : AC σ' v n hs L tx := by
  obtain ⟨a1, a2, ⟨o, ho, a3, a4⟩, a5, a6⟩ := h
  refine ⟨fun k hk => by rw [vw_same (fun c q1 q2 => h1 c (by omega)), a1 k hk], by rw [h1 6 (by omega), a2], ⟨o, ho, by rw [h1 6 (by omega), a3], fun j hj k hk => ?_⟩, by rw [h2, a5], fun k hk => by rw [h3, a6 k hk]⟩
  have lo := hb_lo o j
  rw [vw_same (fun c q1 q2 => h1 c (by omega)), a4 j hj k hk]
theorem AC.nc {σ : Sg} {v : Nat → Int} {n : Nat} {hs : Nat → Nat → Int} {L : Nat} {tx : Nat → Int} (h : AC σ v n hs L tx) : NC σ v := h.1
def VK (N : Int) (k : Nat) (z : Int) : Prop := (k = 0 → 0 ≤ z ∧ z < 65280) ∧ (k = 1 → z = 0 ∨ z = 1) ∧ (k = 2 → 0 ≤ z ∧ z < 64) ∧ (k = 3 → 0 ≤ z ∧ z ≤ 999) ∧ (k = 4 → 0 ≤ z ∧ z ≤ 99) ∧ (k = 5 → -1 ≤ z ∧ z < 65280) ∧ (k = 6 → 0 ≤ z ∧ z ≤ N) ∧ (k = 7 → 0 ≤ z ∧ z ≤ 40) ∧ (k = 8 → 0 ≤ z ∧ z ≤ 32) ∧ (k = 9 → 1 ≤ z ∧ z ≤ 4080) ∧ (k = 10 → -31 ≤ z ∧ z ≤ 31) ∧ (11 ≤ k ∧ k < 38 → -9 ≤ z ∧ z ≤ 9) ∧ (38 ≤ k ∧ k < 62 → -20 ≤ z ∧ z ≤ 20)
theorem VS_iff {N : Int} {v : Nat → Int} : VS N v ↔ ∀ k, k < 62 → VK N k (v k) := by
  constructor
  · rintro ⟨h0, h1, h2, h3, h4, h5, h6, h7, h8, h9, h10, h11, h12⟩ k hk
    exact ⟨fun e => by rw [e]; exact h0, fun e => by rw [e]; exact h1, fun e => by rw [e]; exact h2, fun e => by rw [e]; exact h3, fun e => by rw [e]; exact h4, fun e => by rw [e]; exact h5, fun e => by rw [e]; exact h6, fun e => by rw [e]; exact h7, fun e => by rw [e]; exact h8, fun e => by rw [e]; exact h9, fun e => by rw [e]; exact h10, fun e => h11 k e.1 e.2, fun e => h12 k e.1 e.2⟩
  · intro h
    exact ⟨(h 0 (by omega)).1 rfl, (h 1 (by omega)).2.1 rfl, (h 2 (by omega)).2.2.1 rfl, (h 3 (by omega)).2.2.2.1 rfl, (h 4 (by omega)).2.2.2.2.1 rfl, (h 5 (by omega)).2.2.2.2.2.1 rfl, (h 6 (by omega)).2.2.2.2.2.2.1 rfl, (h 7 (by omega)).2.2.2.2.2.2.2.1 rfl, (h 8 (by omega)).2.2.2.2.2.2.2.2.1 rfl, (h 9 (by omega)).2.2.2.2.2.2.2.2.2.1 rfl, (h 10 (by omega)).2.2.2.2.2.2.2.2.2.2.1 rfl, fun k a b => (h k (by omega)).2.2.2.2.2.2.2.2.2.2.2.1 ⟨a, b⟩, fun k a b => (h k (by omega)).2.2.2.2.2.2.2.2.2.2.2.2 ⟨a, b⟩⟩
theorem VS.up {N M : Int} {v : Nat → Int} (h : VS N v) (hN : N ≤ M) : VS M v := by
  obtain ⟨h0, h1, h2, h3, h4, h5, h6, h7⟩ := h
  exact ⟨h0, h1, h2, h3, h4, h5, ⟨h6.1, by omega⟩, h7⟩
theorem VS.vu {N : Int} {v : Nat → Int} {k : Nat} {z : Int} (h : VS N v) (hz : VK N k z) : VS N (vu v k z) := by
  rw [VS_iff] at h ⊢
  intro j hj
  show VK N j (if j = k then z else v j)
  by_cases e : j = k
  · rw [if_pos e, e]; exact hz
  · rw [if_neg e]; exact h j hj
theorem AC.upd {σ : Sg} {v : Nat → Int} {n : Nat} {hs : Nat → Nat → Int} {L : Nat} {tx : Nat → Int} {c s k0 : Nat} {z : Int} (h : AC σ v n hs L tx) (hp : (c = 1 ∧ k0 < 7 ∧ s = vwo k0) ∨ (c = 2 ∧ s < 4 ∧ k0 = 7 + s) ∨ (c = 3 ∧ s < 24 ∧ k0 = 11 + s) ∨ (c = 4 ∧ s < 3 ∧ k0 = 35 + s) ∨ (c = 5 ∧ s < 24 ∧ k0 = 38 + s)) : AC (pu σ c s (zI z)) (vu v k0 z) n hs L tx := by
  obtain ⟨a1, a2, ⟨o, ho, a3, a4⟩, a5, a6⟩ := h
  have hc : 1 ≤ c ∧ c < 6 := by omega
  refine ⟨fun k hk => ?_, by rw [pu_ne (by omega), a2], ⟨o, ho, by rw [pu_ne (by omega), a3], fun j hj k hk => ?_⟩, by rw [pu_ne (by omega), a5], fun k hk => by rw [pu_ne (by omega), a6 k hk]⟩
  · show _ = zI (if k = k0 then z else v k)
    have e := a1 k hk
    unfold vw at e ⊢
    by_cases q : k = k0
    · rw [if_pos q]
      subst q
      rcases hp with ⟨rfl, b1, rfl⟩ | ⟨rfl, b1, b2⟩ | ⟨rfl, b1, b2⟩ | ⟨rfl, b1, b2⟩ | ⟨rfl, b1, b2⟩
      · rw [if_pos b1, pu_at]
      · rw [if_neg (by omega), if_pos (by omega), show k - 7 = s by omega, pu_at]
      · rw [if_neg (by omega), if_neg (by omega), if_pos (by omega), show k - 11 = s by omega, pu_at]
      · rw [if_neg (by omega), if_neg (by omega), if_neg (by omega), if_pos (by omega), show k - 35 = s by omega, pu_at]
      · rw [if_neg (by omega), if_neg (by omega), if_neg (by omega), if_neg (by omega), show k - 38 = s by omega, pu_at]
    · rw [if_neg q, ← e]
      split
      · rename_i h7
        refine pu_un ?_
        rintro ⟨rfl, e2⟩
        rcases hp with ⟨-, b1, b2⟩ | hp
        · apply q
          rw [b2] at e2
          unfold vwo at e2
          split at e2 <;> split at e2 <;> (try split at e2) <;> (try split at e2) <;> omega
        · omega
      · split
        · refine pu_un ?_
          rintro ⟨rfl, e2⟩
          omega
        · split
          · refine pu_un ?_
            rintro ⟨rfl, e2⟩
            omega
          · split
            · refine pu_un ?_
              rintro ⟨rfl, e2⟩
              omega
            · refine pu_un ?_
              rintro ⟨rfl, e2⟩
              omega
  · have lo := hb_lo o j
    rw [vw_same (fun c' q1 q2 => pu_ne (by omega)), a4 j hj k hk]
theorem pn_le {n : Nat} (h : n ≤ 4) : pn n ≤ 4 := by unfold pn; split <;> omega
theorem ph_vs {N : Int} {n : Nat} {hs : Nat → Nat → Int} {v : Nat → Int} (hv : VS N v) (hh : ∀ j, j < n → VS N (hs j)) (hn : n ≤ 4) : ∀ j, j < pn n → VS N (ph n hs v j) := by
  intro j hj
  unfold pn at hj
  unfold ph
  by_cases q : n = 4
  · rw [if_pos q] at hj ⊢
    split
    · exact hh _ (by omega)
    · exact hv
  · rw [if_neg q] at hj ⊢
    split
    · exact hv
    · exact hh _ (by omega)
