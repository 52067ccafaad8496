set_option linter.all false
/-! THE STATE. v: 62 numbers in the order of the reference's row; n states hs behind it; a text tx of L characters -/
def vwo (k : Nat) : Nat := if k = 1 then 2 else if k = 2 then 1 else k
def vw (σ : Sg) (b k : Nat) : Int32 := if k < 7 then σ b (vwo k) else if k < 11 then σ (b + 1) (k - 7) else if k < 35 then σ (b + 2) (k - 11) else if k < 38 then σ (b + 3) (k - 35) else σ (b + 4) (k - 38)
def hb (o j : Nat) : Nat := 8 + 5 * ((o + j) % 4)
def AC (σ : Sg) (v : Nat → Int) (n : Nat) (hs : Nat → Nat → Int) (L : Nat) (tx : Nat → Int) : Prop :=
  (∀ k, k < 62 → vw σ 1 k = zI (v k)) ∧ σ 6 2 = zI n ∧ (∃ o : Nat, o < 4 ∧ σ 6 1 = zI o ∧ ∀ j, j < n → ∀ k, k < 62 → vw σ (hb o j) k = zI (hs j k)) ∧ σ 30 1 = zI L ∧ ∀ k, k < L → σ 31 k = zI (tx k)
def pn (n : Nat) : Nat := if n = 4 then 4 else n + 1
def ph (n : Nat) (hs : Nat → Nat → Int) (v : Nat → Int) : Nat → Nat → Int := fun j => if n = 4 then (if j < 3 then hs (j + 1) else v) else (if j = n then v else hs j)
def vu (v : Nat → Int) (k : Nat) (z : Int) : Nat → Int := fun j => if j = k then z else v j
theorem vw_c {σ σ' : Sg} {b b' : Nat} (h0 : ∀ k, k < 7 → σ' b' k = σ b k) (h1 : ∀ k, k < 4 → σ' (b' + 1) k = σ (b + 1) k) (h2 : ∀ k, k < 24 → σ' (b' + 2) k = σ (b + 2) k) (h3 : ∀ k, k < 3 → σ' (b' + 3) k = σ (b + 3) k) (h4 : ∀ k, k < 24 → σ' (b' + 4) k = σ (b + 4) k) : ∀ k, k < 62 → vw σ' b' k = vw σ b k := by
  intro k hk
  unfold vw
  split
  · exact h0 _ (by unfold vwo; split <;> (try split) <;> omega)
  · split
    · exact h1 _ (by omega)
    · split
      · exact h2 _ (by omega)
      · split
        · exact h3 _ (by omega)
        · exact h4 _ (by omega)
theorem vw_same {σ σ' : Sg} {b : Nat} (h : ∀ c, b ≤ c → c < b + 5 → σ' c = σ c) (k : Nat) : vw σ' b k = vw σ b k := by
  unfold vw
  rw [h b (by omega) (by omega), h (b + 1) (by omega) (by omega), h (b + 2) (by omega) (by omega), h (b + 3) (by omega) (by omega), h (b + 4) (by omega) (by omega)]
theorem copyLoop {a0 a1 : Nat} (hne : a0 ≠ a1) (hl : o_len a0 = o_len a1) (hL : o_len a1 < 1000) (ha : a1 < 41) : ∀ (n i : Nat) (σ : Sg), i ≤ o_len a1 → o_len a1 - i < n →
    ok_X5_copy_2 a0 a1 n (zI i) σ ∧ ∀ σ' : Sg, σ' = f_X5_copy_2 a0 a1 n (zI i) σ → (∀ c, c ≠ a1 → σ' c = σ c) ∧ (∀ k, k < i → σ' a1 k = σ a1 k) ∧ ∀ k, i ≤ k → k < o_len a1 → σ' a1 k = σ a0 k := by
  intro n
  induction n with
  | zero => intro i σ h1 h2; omega
  | succ n ih =>
    intro i σ h1 h2
    have e0 : (Int32.ofNat (o_len a0) ≤ zI i) ↔ o_len a1 ≤ i := by
      rw [z_on, z_le (by unfold zB; omega) (by unfold zB; omega)]
      omega
    have e1 : (Int32.ofNat (o_len a1) ≤ zI i) ↔ o_len a1 ≤ i := by
      rw [z_on, z_le (by unfold zB; omega) (by unfold zB; omega)]
      omega
    by_cases q : o_len a1 ≤ i
    · refine ⟨⟨fun _ => trivial, fun c => absurd (e0.mpr q) c⟩, fun σ' e => ?_⟩
      have e' : σ' = o_ite _ σ _ := e
      rw [itp (e0.mpr q)] at e'
      subst e'
      exact ⟨fun _ _ => rfl, fun _ _ => rfl, fun k k1 k2 => by omega⟩
    · have en : (zI (i : Int)).toNatClampNeg = i := by rw [z_nat (by unfold zB; omega)]; omega
      have ei : zI (i : Int) + 1 = zI ((i + 1 : Nat) : Int) := z_add i 1
      have k := ih (i + 1) (pu σ a1 i (σ a0 i)) (by omega) (by omega)
      have hok : ok_X5_copy_2 a0 a1 n (zI i + 1) (pu σ a1 (zI (i : Int)).toNatClampNeg (σ a0 (zI (i : Int)).toNatClampNeg)) := by
        rw [en, ei]
        exact k.1
      refine ⟨⟨fun c => absurd (e0.mp c) q, fun _ => ⟨fun c => absurd (e1.mp c) q, fun _ => ⟨z_in (by omega) (by omega) (by omega), z_in (by omega) (by omega) (by omega), hok⟩⟩⟩, fun σ' e => ?_⟩
      have e' : σ' = o_ite _ σ (o_ite _ σ (f_X5_copy_2 a0 a1 n (zI i + 1) (pu σ a1 (zI (i : Int)).toNatClampNeg (σ a0 (zI (i : Int)).toNatClampNeg)))) := e
      rw [itn (fun c => q (e0.mp c)), itn (fun c => q (e1.mp c)), en, ei] at e'
      obtain ⟨k1, k2, k3⟩ := k.2 σ' e'
      refine ⟨fun c hc => (k1 c hc).trans (pu_ne hc), fun j hj => (k2 j (by omega)).trans (pu_un (by omega)), fun j j1 j2 => ?_⟩
      by_cases qq : j = i
      · subst qq
        rw [k2 j (by omega), pu_at]
      · rw [k3 j (by omega) j2, pu_un (by omega)]
theorem copy_C {a0 a1 : Nat} {σ : Sg} (hne : a0 ≠ a1) (hl : o_len a0 = o_len a1) (hL : o_len a1 < 1000) (ha : a1 < 41) : ok_X5_copy a0 a1 σ ∧ ∀ σ' : Sg, σ' = f_X5_copy a0 a1 σ → (∀ c, c ≠ a1 → σ' c = σ c) ∧ ∀ k, k < o_len a1 → σ' a1 k = σ a0 k := by
  have r := copyLoop hne hl hL ha oF 0 σ (by omega) (by rw [oF_eq]; omega)
  exact ⟨r.1, fun σ' e => ⟨(r.2 σ' e).1, fun k hk => (r.2 σ' e).2.2 k (by omega) hk⟩⟩

