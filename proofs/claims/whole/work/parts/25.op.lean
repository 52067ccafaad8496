set_option linter.all false
/-! one call on both sides -/
def TX (L : Nat) (tx : Nat → Int) : Prop := ∀ k, k < L → 32 ≤ tx k ∧ tx k ≤ 126
def SI (N : Int) (σ : Sg) : Prop := ∃ (v : Nat → Int) (n : Nat) (hs : Nat → Nat → Int) (L : Nat) (tx : Nat → Int), AC σ v n hs L tx ∧ AM σ v n hs L tx ∧ VS N v ∧ (∀ j, j < n → VS N (hs j)) ∧ n ≤ 4 ∧ L ≤ 60 ∧ TX L tx
theorem AC.fr {σ σ' : Sg} {v : Nat → Int} {n : Nat} {hs : Nat → Nat → Int} {L : Nat} {tx : Nat → Int} (h : AC σ v n hs L tx) (h1 : ∀ c, c < 28 → σ' c = σ c) (h2 : σ' 30 1 = σ 30 1) (h3 : σ' 31 = σ 31) : AC σ' v n hs L tx := by
  obtain ⟨a1, a2, ⟨o, ho, a3, a4⟩, a5, a6⟩ := h
  refine ⟨fun k hk => by rw [vw_same (fun c q1 q2 => h1 c (by omega)), a1 k hk], by rw [h1 6 (by omega), a2], ⟨o, ho, by rw [h1 6 (by omega), a3], fun j hj k hk => ?_⟩, by rw [h2, a5], fun k hk => by rw [h3, a6 k hk]⟩
  have lo := hb_lo o j
  rw [vw_same (fun c q1 q2 => h1 c (by omega)), a4 j hj k hk]
theorem AC.f34 {σ σ' : Sg} {v : Nat → Int} {n : Nat} {hs : Nat → Nat → Int} {L : Nat} {tx : Nat → Int} (h : AC σ v n hs L tx) (h1 : ∀ c, c < 34 → σ' c = σ c) : AC σ' v n hs L tx := h.fr (fun c hc => h1 c (by omega)) (by rw [h1 30 (by omega)]) (h1 31 (by omega))
theorem AM.f34 {σ σ' : Sg} {v : Nat → Int} {n : Nat} {hs : Nat → Nat → Int} {L : Nat} {tx : Nat → Int} (h : AM σ v n hs L tx) (h1 : ∀ c, 34 ≤ c → σ' c = σ c) : AM σ' v n hs L tx := by
  obtain ⟨a1, a2, a3, a4, a5⟩ := h
  exact ⟨fun k hk => by rw [h1 35 (by omega), a1 k hk], by rw [h1 34 (by omega), a2], fun j hj k hk => by rw [h1 36 (by omega), a3 j hj k hk], by rw [h1 34 (by omega), a4], fun k hk => by rw [h1 37 (by omega), a5 k hk]⟩
theorem AC.nc {σ : Sg} {v : Nat → Int} {n : Nat} {hs : Nat → Nat → Int} {L : Nat} {tx : Nat → Int} (h : AC σ v n hs L tx) : NC σ v := h.1
theorem AM.nm {σ : Sg} {v : Nat → Int} {n : Nat} {hs : Nat → Nat → Int} {L : Nat} {tx : Nat → Int} (h : AM σ v n hs L tx) : NM σ v := h.1
/-- ranges, place by place -/
def VK (N : Int) (k : Nat) (z : Int) : Prop := (k = 0 → 0 ≤ z ∧ z < 65280) ∧ (k = 1 → z = 0 ∨ z = 1) ∧ (k = 2 → 0 ≤ z ∧ z < 64) ∧ (k = 3 → 0 ≤ z ∧ z ≤ 999) ∧ (k = 4 → 0 ≤ z ∧ z ≤ 99) ∧ (k = 5 → -1 ≤ z ∧ z < 65280) ∧ (k = 6 → 0 ≤ z ∧ z ≤ N) ∧ (k = 7 → 0 ≤ z ∧ z ≤ 40) ∧ (k = 8 → 0 ≤ z ∧ z ≤ 32) ∧ (k = 9 → 1 ≤ z ∧ z ≤ 4080) ∧ (k = 10 → -31 ≤ z ∧ z ≤ 31) ∧ (11 ≤ k ∧ k < 38 → -9 ≤ z ∧ z ≤ 9) ∧ (38 ≤ k ∧ k < 62 → -20 ≤ z ∧ z ≤ 20)
theorem VS_iff {N : Int} {v : Nat → Int} : VS N v ↔ ∀ k, k < 62 → VK N k (v k) := by
  constructor
  · rintro ⟨h0, h1, h2, h3, h4, h5, h6, h7, h8, h9, h10, h11, h12⟩ k hk
    exact ⟨fun e => by rw [e]; exact h0, fun e => by rw [e]; exact h1, fun e => by rw [e]; exact h2, fun e => by rw [e]; exact h3, fun e => by rw [e]; exact h4, fun e => by rw [e]; exact h5, fun e => by rw [e]; exact h6, fun e => by rw [e]; exact h7, fun e => by rw [e]; exact h8, fun e => by rw [e]; exact h9, fun e => by rw [e]; exact h10, fun e => h11 k e.1 e.2, fun e => h12 k e.1 e.2⟩
  · intro h
    exact ⟨(h 0 (by omega)).1 rfl, (h 1 (by omega)).2.1 rfl, (h 2 (by omega)).2.2.1 rfl, (h 3 (by omega)).2.2.2.1 rfl, (h 4 (by omega)).2.2.2.2.1 rfl, (h 5 (by omega)).2.2.2.2.2.1 rfl, (h 6 (by omega)).2.2.2.2.2.2.1 rfl, (h 7 (by omega)).2.2.2.2.2.2.2.1 rfl, (h 8 (by omega)).2.2.2.2.2.2.2.2.1 rfl, (h 9 (by omega)).2.2.2.2.2.2.2.2.2.1 rfl, (h 10 (by omega)).2.2.2.2.2.2.2.2.2.2.1 rfl, fun k a b => (h k (by omega)).2.2.2.2.2.2.2.2.2.2.2.1 ⟨a, b⟩, fun k a b => (h k (by omega)).2.2.2.2.2.2.2.2.2.2.2.2 ⟨a, b⟩⟩
theorem VS.up {N M : Int} {v : Nat → Int} (h : VS N v) (hN : N ≤ M) : VS M v := by
  obtain ⟨h0, h1, h2, h3, h4, h5, h6, h7⟩ := h
  exact ⟨h0, h1, h2, h3, h4, h5, ⟨h6.1, by omega⟩, h7⟩
theorem VS.vu {N : Int} {v : Nat → Int} {k : Nat} {z : Int} (h : VS N v) (hz : VK N k z) : VS N (vu v k z) := by
  rw [VS_iff] at h ⊢
  intro j hj
  show VK N j (if j = k then z else v j)
  by_cases e : j = k
  · rw [if_pos e, e]; exact hz
  · rw [if_neg e]; exact h j hj
theorem AC.upd {σ : Sg} {v : Nat → Int} {n : Nat} {hs : Nat → Nat → Int} {L : Nat} {tx : Nat → Int} {c s k0 : Nat} {z : Int} (h : AC σ v n hs L tx) (hp : (c = 1 ∧ k0 < 7 ∧ s = vwo k0) ∨ (c = 2 ∧ s < 4 ∧ k0 = 7 + s) ∨ (c = 3 ∧ s < 24 ∧ k0 = 11 + s) ∨ (c = 4 ∧ s < 3 ∧ k0 = 35 + s) ∨ (c = 5 ∧ s < 24 ∧ k0 = 38 + s)) : AC (pu σ c s (zI z)) (vu v k0 z) n hs L tx := by
  obtain ⟨a1, a2, ⟨o, ho, a3, a4⟩, a5, a6⟩ := h
  have hc : 1 ≤ c ∧ c < 6 := by omega
  refine ⟨fun k hk => ?_, by rw [pu_ne (by omega), a2], ⟨o, ho, by rw [pu_ne (by omega), a3], fun j hj k hk => ?_⟩, by rw [pu_ne (by omega), a5], fun k hk => by rw [pu_ne (by omega), a6 k hk]⟩
  · show _ = zI (if k = k0 then z else v k)
    have e := a1 k hk
    unfold vw at e ⊢
    by_cases q : k = k0
    · rw [if_pos q]
      subst q
      rcases hp with ⟨rfl, b1, rfl⟩ | ⟨rfl, b1, b2⟩ | ⟨rfl, b1, b2⟩ | ⟨rfl, b1, b2⟩ | ⟨rfl, b1, b2⟩
      · rw [if_pos b1, pu_at]
      · rw [if_neg (by omega), if_pos (by omega), show k - 7 = s by omega, pu_at]
      · rw [if_neg (by omega), if_neg (by omega), if_pos (by omega), show k - 11 = s by omega, pu_at]
      · rw [if_neg (by omega), if_neg (by omega), if_neg (by omega), if_pos (by omega), show k - 35 = s by omega, pu_at]
      · rw [if_neg (by omega), if_neg (by omega), if_neg (by omega), if_neg (by omega), show k - 38 = s by omega, pu_at]
    · rw [if_neg q, ← e]
      split
      · rename_i h7
        refine pu_un ?_
        rintro ⟨rfl, e2⟩
        rcases hp with ⟨-, b1, b2⟩ | hp
        · apply q
          rw [b2] at e2
          unfold vwo at e2
          split at e2 <;> split at e2 <;> (try split at e2) <;> (try split at e2) <;> omega
        · omega
      · split
        · refine pu_un ?_
          rintro ⟨rfl, e2⟩
          omega
        · split
          · refine pu_un ?_
            rintro ⟨rfl, e2⟩
            omega
          · split
            · refine pu_un ?_
              rintro ⟨rfl, e2⟩
              omega
            · refine pu_un ?_
              rintro ⟨rfl, e2⟩
              omega
  · have lo := hb_lo o j
    rw [vw_same (fun c' q1 q2 => pu_ne (by omega)), a4 j hj k hk]
theorem AM.upd {σ : Sg} {v : Nat → Int} {n : Nat} {hs : Nat → Nat → Int} {L : Nat} {tx : Nat → Int} {k0 : Nat} {z : Int} (h : AM σ v n hs L tx) : AM (pu σ 35 k0 (zI z)) (vu v k0 z) n hs L tx := by
  obtain ⟨a1, a2, a3, a4, a5⟩ := h
  refine ⟨fun k hk => ?_, by rw [pu_ne (by omega), a2], fun j hj k hk => by rw [pu_ne (by omega), a3 j hj k hk], by rw [pu_ne (by omega), a4], fun k hk => by rw [pu_ne (by omega), a5 k hk]⟩
  show _ = zI (if k = k0 then z else v k)
  by_cases q : k = k0
  · rw [if_pos q, q, pu_at]
  · rw [if_neg q, pu_un (by omega), a1 k hk]
def Op (okC : Sg → Prop) (fC : Sg → Int32 × Sg) (okM : Sg → Prop) (fM : Sg → Int32 × Sg) (N : Int) : Prop := ∀ σ, SI N σ → okC σ ∧ okM (fC σ).2 ∧ (fC σ).1 = (fM (fC σ).2).1 ∧ SI (N + 1) (fM (fC σ).2).2
theorem Op.of {okC : Sg → Prop} {fC : Sg → Int32 × Sg} {okM : Sg → Prop} {fM : Sg → Int32 × Sg} {N : Int} (h : ∀ (σ : Sg) (v : Nat → Int) (n : Nat) (hs : Nat → Nat → Int) (L : Nat) (tx : Nat → Int), AC σ v n hs L tx → VS N v → (∀ j, j < n → VS N (hs j)) → n ≤ 4 → L ≤ 60 → TX L tx →
    ∃ (r : Int32) (v' : Nat → Int) (n' : Nat) (hs' : Nat → Nat → Int) (L' : Nat) (tx' : Nat → Int), okC σ ∧ (∀ q : Int32 × Sg, q = fC σ → q.1 = r ∧ AC q.2 v' n' hs' L' tx' ∧ ∀ c, 34 ≤ c → q.2 c = σ c) ∧ (∀ τ : Sg, AM τ v n hs L tx → okM τ ∧ ∀ q : Int32 × Sg, q = fM τ → q.1 = r ∧ AM q.2 v' n' hs' L' tx' ∧ ∀ c, c < 34 → q.2 c = τ c) ∧ VS (N + 1) v' ∧ (∀ j, j < n' → VS (N + 1) (hs' j)) ∧ n' ≤ 4 ∧ L' ≤ 60 ∧ TX L' tx') : Op okC fC okM fM N := by
  rintro σ ⟨v, n, hs, L, tx, hC, hM, hv, hh, hn, hL, hT⟩
  obtain ⟨r, v', n', hs', L', tx', k1, k2, k3, k4, k5, k6, k7, k8⟩ := h σ v n hs L tx hC hv hh hn hL hT
  obtain ⟨c1, c2, c3⟩ := k2 _ rfl
  obtain ⟨m0, m⟩ := k3 (fC σ).2 (hM.f34 c3)
  obtain ⟨m1, m2, m3⟩ := m _ rfl
  exact ⟨k1, m0, by rw [c1, m1], v', n', hs', L', tx', c2.f34 m3, m2, k4, k5, k6, k7, k8⟩
/-- an answer that changes nothing -/
theorem op_same {okC : Sg → Prop} {fC : Sg → Int32 × Sg} {okM : Sg → Prop} {fM : Sg → Int32 × Sg} {N : Int} {σ : Sg} {v : Nat → Int} {n : Nat} {hs : Nat → Nat → Int} {L : Nat} {tx : Nat → Int} (hC : AC σ v n hs L tx) (hv : VS N v) (hh : ∀ j, j < n → VS N (hs j)) (hn : n ≤ 4) (hL : L ≤ 60) (hT : TX L tx) (r : Int32) (h1 : okC σ) (h2 : ∀ q : Int32 × Sg, q = fC σ → q.1 = r ∧ (∀ c, c < 28 → q.2 c = σ c) ∧ q.2 30 1 = σ 30 1 ∧ q.2 31 = σ 31 ∧ ∀ c, 34 ≤ c → q.2 c = σ c) (h3 : ∀ τ : Sg, AM τ v n hs L tx → okM τ ∧ ∀ q : Int32 × Sg, q = fM τ → q.1 = r ∧ AM q.2 v n hs L tx ∧ ∀ c, c < 34 → q.2 c = τ c) :
    ∃ (r : Int32) (v' : Nat → Int) (n' : Nat) (hs' : Nat → Nat → Int) (L' : Nat) (tx' : Nat → Int), okC σ ∧ (∀ q : Int32 × Sg, q = fC σ → q.1 = r ∧ AC q.2 v' n' hs' L' tx' ∧ ∀ c, 34 ≤ c → q.2 c = σ c) ∧ (∀ τ : Sg, AM τ v n hs L tx → okM τ ∧ ∀ q : Int32 × Sg, q = fM τ → q.1 = r ∧ AM q.2 v' n' hs' L' tx' ∧ ∀ c, c < 34 → q.2 c = τ c) ∧ VS (N + 1) v' ∧ (∀ j, j < n' → VS (N + 1) (hs' j)) ∧ n' ≤ 4 ∧ L' ≤ 60 ∧ TX L' tx' :=
  ⟨r, v, n, hs, L, tx, h1, fun q e => ⟨(h2 q e).1, hC.fr (h2 q e).2.1 (h2 q e).2.2.1 (h2 q e).2.2.2.1, (h2 q e).2.2.2.2⟩, h3, hv.up (by omega), fun j hj => (hh j hj).up (by omega), hn, hL, hT⟩
theorem AM.fr {σ σ' : Sg} {v : Nat → Int} {n : Nat} {hs : Nat → Nat → Int} {L : Nat} {tx : Nat → Int} (h : AM σ v n hs L tx) (h1 : σ' 35 = σ 35) (h2 : σ' 36 = σ 36) (h3 : σ' 37 = σ 37) (h4 : σ' 34 2 = σ 34 2) (h5 : σ' 34 4 = σ 34 4) : AM σ' v n hs L tx := by
  obtain ⟨a1, a2, a3, a4, a5⟩ := h
  exact ⟨fun k hk => by rw [h1, a1 k hk], by rw [h4, a2], fun j hj k hk => by rw [h2, a3 j hj k hk], by rw [h5, a4], fun k hk => by rw [h3, a5 k hk]⟩
theorem pn_le {n : Nat} (h : n ≤ 4) : pn n ≤ 4 := by unfold pn; split <;> omega
theorem ph_vs {N : Int} {n : Nat} {hs : Nat → Nat → Int} {v : Nat → Int} (hv : VS N v) (hh : ∀ j, j < n → VS N (hs j)) (hn : n ≤ 4) : ∀ j, j < pn n → VS N (ph n hs v j) := by
  intro j hj
  unfold pn at hj
  unfold ph
  by_cases q : n = 4
  · rw [if_pos q] at hj ⊢
    split
    · exact hh _ (by omega)
    · exact hv
  · rw [if_neg q] at hj ⊢
    split
    · exact hv
    · exact hh _ (by omega)
/-- a number set: the row's place k0, which the class keeps at c, s; the answer is the old one and d -/
theorem op_set {okC : Sg → Prop} {fC : Sg → Int32 × Sg} {okM : Sg → Prop} {fM : Sg → Int32 × Sg} {N : Int} {σ : Sg} {v : Nat → Int} {n : Nat} {hs : Nat → Nat → Int} {L : Nat} {tx : Nat → Int} (hC : AC σ v n hs L tx) (hv : VS N v) (hh : ∀ j, j < n → VS N (hs j)) (hn : n ≤ 4) (hL : L ≤ 60) (hT : TX L tx) {c s k0 : Nat} {z d : Int} (hp : (c = 1 ∧ k0 < 7 ∧ s = vwo k0) ∨ (c = 2 ∧ s < 4 ∧ k0 = 7 + s) ∨ (c = 3 ∧ s < 24 ∧ k0 = 11 + s) ∨ (c = 4 ∧ s < 3 ∧ k0 = 35 + s) ∨ (c = 5 ∧ s < 24 ∧ k0 = 38 + s)) (hz : VK N k0 z)
    (h1 : okC σ) (h2 : AC (f_X2_keep σ) v (pn n) (ph n hs v) L tx → (fC σ).1 = zI d ∧ (fC σ).2 = pu (f_X2_keep σ) c s (zI z)) (h3 : ∀ τ : Sg, AM τ v n hs L tx → okM τ ∧ (AM (f_X6_saves τ) v (pn n) (ph n hs v) L tx → (fM τ).1 = zI d ∧ (fM τ).2 = pu (f_X6_saves τ) 35 k0 (zI z))) :
    ∃ (r : Int32) (v' : Nat → Int) (n' : Nat) (hs' : Nat → Nat → Int) (L' : Nat) (tx' : Nat → Int), okC σ ∧ (∀ q : Int32 × Sg, q = fC σ → q.1 = r ∧ AC q.2 v' n' hs' L' tx' ∧ ∀ c, 34 ≤ c → q.2 c = σ c) ∧ (∀ τ : Sg, AM τ v n hs L tx → okM τ ∧ ∀ q : Int32 × Sg, q = fM τ → q.1 = r ∧ AM q.2 v' n' hs' L' tx' ∧ ∀ c, c < 34 → q.2 c = τ c) ∧ VS (N + 1) v' ∧ (∀ j, j < n' → VS (N + 1) (hs' j)) ∧ n' ≤ 4 ∧ L' ≤ 60 ∧ TX L' tx' := by
  obtain ⟨k1, k2⟩ := (keep_C hC hn hv.2.1).2 _ rfl
  obtain ⟨e1, e2⟩ := h2 k1
  refine ⟨zI d, vu v k0 z, pn n, ph n hs v, L, tx, h1, fun q e => ?_, fun τ hτ => ⟨(h3 τ hτ).1, fun q e => ?_⟩, (hv.vu hz).up (by omega), fun j hj => (ph_vs hv hh hn j hj).up (by omega), pn_le hn, hL, hT⟩
  · rw [e, e2]
    exact ⟨e1, k1.upd hp, fun c' hc => by rw [pu_ne (by omega), k2 c' (Or.inr (by omega))]⟩
  · obtain ⟨m1, m2, m3⟩ := (saves_M hτ hn).2 _ rfl
    obtain ⟨g1, g2⟩ := (h3 τ hτ).2 m1
    rw [e, g2]
    exact ⟨g1, m1.upd, fun c' hc => by rw [pu_ne (by omega), m2 c' (by omega) (by omega)]⟩
