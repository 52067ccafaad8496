set_option linter.all false
theorem AC.txt {σ σ' : Sg} {v : Nat → Int} {n : Nat} {hs : Nat → Nat → Int} {L L' : Nat} {tx tx' : Nat → Int} (h : AC σ v n hs L tx) (h1 : ∀ c, c < 28 → σ' c = σ c) (h2 : σ' 30 1 = zI (L' : Int)) (h3 : ∀ k, k < L' → σ' 31 k = zI (tx' k)) : AC σ' v n hs L' tx' := by
  obtain ⟨a1, a2, ⟨o, ho, a3, a4⟩, a5, a6⟩ := h
  refine ⟨fun k hk => by rw [vw_same (fun c q1 q2 => h1 c (by omega)), a1 k hk], by rw [h1 6 (by omega), a2], ⟨o, ho, by rw [h1 6 (by omega), a3], fun j hj k hk => ?_⟩, h2, h3⟩
  have lo := hb_lo o j
  rw [vw_same (fun c q1 q2 => h1 c (by omega)), a4 j hj k hk]
theorem qC {σ : Sg} {v : Nat → Int} {n : Nat} {hs : Nat → Nat → Int} {L : Nat} {tx : Nat → Int} {F : Int32 × Sg} {r : Int32} {s' : Sg} (e : F = (r, s')) (hA : AC s' v n hs L tx) (hf : ∀ c, 34 ≤ c → s' c = σ c) : ∀ q : Int32 × Sg, q = F → q.1 = r ∧ AC q.2 v n hs L tx ∧ ∀ c, 34 ≤ c → q.2 c = σ c := by
  intro q h
  rw [h, e]
  exact ⟨rfl, hA, hf⟩
noncomputable def lookR (v : Nat → Int) (P : Int) : Int := if P = 0 then fL v (aAng v) else if P = 1 then fD v (aAng v) else if P = 2 then f1 v (aAng v) else if P = 3 then fN v (aAng v) else if fL v (aAng v) = aAng v then 1 else 0
