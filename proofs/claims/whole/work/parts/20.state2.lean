set_option linter.all false
theorem ring0 {L x : Int} {a : Int32} (h : 0 ≤ x ∧ x < L) (hL : 0 < L) (hL2 : L < 1000) (h1 : x = 0 → a = 0) (h2 : ¬ x = 0 → a = zI (L - x)) : a = zI ((0 - x) % L) := by
  by_cases q : x = 0
  · rw [h1 q, q]
    rfl
  · have e : 0 - x = (L - x) + L * (-1) := by omega
    rw [h2 q, e, Int.add_mul_emod_self_left, Int.emod_eq_of_lt (by omega) (by omega)]
theorem finds_M {x y z : Int} {σ : Sg} (h : rdg x y z) : ok_X6_finds (zI x) (zI y) (zI z) σ ∧ ∀ σ' : Sg, σ' = f_X6_finds (zI x) (zI y) (zI z) σ → σ' 34 5 = zI (near x y z) ∧ σ' 34 6 = zI (dev (near x y z) x y z) ∧ fr 34 [5, 6] σ σ' := by
  obtain ⟨h1, h2, h3, h4, h5, h6⟩ := h
  have e0 : ∀ {t : Int}, 0 ≤ t → t < 1000 → ((zI t = 0) ↔ t = 0) := fun {t} a b => by rw [z_0]; exact z_eq (by unfold zB; omega) (by unfold zB; omega)
  have s43 : ∀ (a b c : Int32), a = zI ((0 - x) % 272) → b = zI ((0 - y) % 255) → c = zI ((0 - z) % 240) → ok_X6_finds_43 a b c σ ∧ ∀ σ' : Sg, σ' = f_X6_finds_43 a b c σ → σ' 34 5 = zI (near x y z) ∧ σ' 34 6 = zI (dev (near x y z) x y z) ∧ fr 34 [5, 6] σ σ' := by
    intro a b c ha hb hc
    subst ha; subst hb; subst hc
    have r := findsLoop (x := x) (y := y) (z := z) oF 0 0 4080 (pu (pu σ 34 6 4080) 34 5 0) (by omega) (by omega) (by rw [oF_eq]; omega) (by rw [pu_at]; rfl) (by rw [pu_un (by omega), pu_at]; rfl) (Or.inl ⟨rfl, rfl, rfl⟩)
    refine ⟨r.1, fun σ' e => ?_⟩
    have k := r.2 σ' e
    exact ⟨k.1, k.2.1, ((fr.pu (by decide)).tr (fr.pu (by decide))).tr k.2.2⟩
  have s28 : ∀ (a b : Int32), a = zI ((0 - x) % 272) → b = zI ((0 - y) % 255) → ok_X6_finds_28 (zI z) a b σ ∧ ∀ σ' : Sg, σ' = f_X6_finds_28 (zI z) a b σ → σ' 34 5 = zI (near x y z) ∧ σ' 34 6 = zI (dev (near x y z) x y z) ∧ fr 34 [5, 6] σ σ' := by
    intro a b ha hb
    have e240 : (240 : Int32) - zI z = zI (240 - z) := z_sub 240 z
    by_cases q : z = 0
    · have r := s43 a b 0 ha hb (ring0 ⟨h5, h6⟩ (by omega) (by omega) (fun _ => rfl) (fun c => absurd q c))
      refine ⟨⟨fun _ => r.1, fun c => absurd ((e0 h5 (by omega)).mpr q) c⟩, fun σ' e => ?_⟩
      have e' : σ' = o_ite _ _ _ := e
      rw [itp ((e0 h5 (by omega)).mpr q)] at e'
      exact r.2 σ' e'
    · have r := s43 a b (240 - zI z) ha hb (ring0 ⟨h5, h6⟩ (by omega) (by omega) (fun c => absurd c q) (fun _ => e240))
      refine ⟨⟨fun c => absurd ((e0 h5 (by omega)).mp c) q, fun _ => r.1⟩, fun σ' e => ?_⟩
      have e' : σ' = o_ite _ _ _ := e
      rw [itn (fun c => q ((e0 h5 (by omega)).mp c))] at e'
      exact r.2 σ' e'
  have s13 : ∀ (a : Int32), a = zI ((0 - x) % 272) → ok_X6_finds_13 (zI y) (zI z) a σ ∧ ∀ σ' : Sg, σ' = f_X6_finds_13 (zI y) (zI z) a σ → σ' 34 5 = zI (near x y z) ∧ σ' 34 6 = zI (dev (near x y z) x y z) ∧ fr 34 [5, 6] σ σ' := by
    intro a ha
    have e255 : (255 : Int32) - zI y = zI (255 - y) := z_sub 255 y
    by_cases q : y = 0
    · have r := s28 a 0 ha (ring0 ⟨h3, h4⟩ (by omega) (by omega) (fun _ => rfl) (fun c => absurd q c))
      refine ⟨⟨fun _ => r.1, fun c => absurd ((e0 h3 (by omega)).mpr q) c⟩, fun σ' e => ?_⟩
      have e' : σ' = o_ite _ _ _ := e
      rw [itp ((e0 h3 (by omega)).mpr q)] at e'
      exact r.2 σ' e'
    · have r := s28 a (255 - zI y) ha (ring0 ⟨h3, h4⟩ (by omega) (by omega) (fun c => absurd c q) (fun _ => e255))
      refine ⟨⟨fun c => absurd ((e0 h3 (by omega)).mp c) q, fun _ => r.1⟩, fun σ' e => ?_⟩
      have e' : σ' = o_ite _ _ _ := e
      rw [itn (fun c => q ((e0 h3 (by omega)).mp c))] at e'
      exact r.2 σ' e'
  have e272 : (272 : Int32) - zI x = zI (272 - x) := z_sub 272 x
  by_cases q : x = 0
  · have r := s13 0 (ring0 ⟨h1, h2⟩ (by omega) (by omega) (fun _ => rfl) (fun c => absurd q c))
    refine ⟨⟨fun _ => r.1, fun c => absurd ((e0 h1 (by omega)).mpr q) c⟩, fun σ' e => ?_⟩
    have e' : σ' = o_ite _ _ _ := e
    rw [itp ((e0 h1 (by omega)).mpr q)] at e'
    exact r.2 σ' e'
  · have r := s13 (272 - zI x) (ring0 ⟨h1, h2⟩ (by omega) (by omega) (fun c => absurd c q) (fun _ => e272))
    refine ⟨⟨fun c => absurd ((e0 h1 (by omega)).mp c) q, fun _ => r.1⟩, fun σ' e => ?_⟩
    have e' : σ' = o_ite _ _ _ := e
    rw [itn (fun c => q ((e0 h1 (by omega)).mp c))] at e'
    exact r.2 σ' e'
/-! THE STATE. v: 62 numbers in the order of the reference's row; n states hs behind it; a text tx of L characters -/
def vwo (k : Nat) : Nat := if k = 1 then 2 else if k = 2 then 1 else k
def vw (σ : Sg) (b k : Nat) : Int32 := if k < 7 then σ b (vwo k) else if k < 11 then σ (b + 1) (k - 7) else if k < 35 then σ (b + 2) (k - 11) else if k < 38 then σ (b + 3) (k - 35) else σ (b + 4) (k - 38)
def hb (o j : Nat) : Nat := 8 + 5 * ((o + j) % 4)
def AC (σ : Sg) (v : Nat → Int) (n : Nat) (hs : Nat → Nat → Int) (L : Nat) (tx : Nat → Int) : Prop :=
  (∀ k, k < 62 → vw σ 1 k = zI (v k)) ∧ σ 6 2 = zI n ∧ (∃ o : Nat, o < 4 ∧ σ 6 1 = zI o ∧ ∀ j, j < n → ∀ k, k < 62 → vw σ (hb o j) k = zI (hs j k)) ∧ σ 30 1 = zI L ∧ ∀ k, k < L → σ 31 k = zI (tx k)
def AM (σ : Sg) (v : Nat → Int) (n : Nat) (hs : Nat → Nat → Int) (L : Nat) (tx : Nat → Int) : Prop :=
  (∀ k, k < 62 → σ 35 k = zI (v k)) ∧ σ 34 2 = zI n ∧ (∀ j, j < n → ∀ k, k < 62 → σ 36 (62 * j + k) = zI (hs j k)) ∧ σ 34 4 = zI L ∧ ∀ k, k < L → σ 37 k = zI (tx k)
def pn (n : Nat) : Nat := if n = 4 then 4 else n + 1
def ph (n : Nat) (hs : Nat → Nat → Int) (v : Nat → Int) : Nat → Nat → Int := fun j => if n = 4 then (if j < 3 then hs (j + 1) else v) else (if j = n then v else hs j)
def vu (v : Nat → Int) (k : Nat) (z : Int) : Nat → Int := fun j => if j = k then z else v j
theorem vw_c {σ σ' : Sg} {b b' : Nat} (h0 : ∀ k, k < 7 → σ' b' k = σ b k) (h1 : ∀ k, k < 4 → σ' (b' + 1) k = σ (b + 1) k) (h2 : ∀ k, k < 24 → σ' (b' + 2) k = σ (b + 2) k) (h3 : ∀ k, k < 3 → σ' (b' + 3) k = σ (b + 3) k) (h4 : ∀ k, k < 24 → σ' (b' + 4) k = σ (b + 4) k) : ∀ k, k < 62 → vw σ' b' k = vw σ b k := by
  intro k hk
  unfold vw
  split
  · exact h0 _ (by unfold vwo; split <;> (try split) <;> omega)
  · split
    · exact h1 _ (by omega)
    · split
      · exact h2 _ (by omega)
      · split
        · exact h3 _ (by omega)
        · exact h4 _ (by omega)
theorem vw_same {σ σ' : Sg} {b : Nat} (h : ∀ c, b ≤ c → c < b + 5 → σ' c = σ c) (k : Nat) : vw σ' b k = vw σ b k := by
  unfold vw
  rw [h b (by omega) (by omega), h (b + 1) (by omega) (by omega), h (b + 2) (by omega) (by omega), h (b + 3) (by omega) (by omega), h (b + 4) (by omega) (by omega)]
/-- a row copied -/
theorem copyLoop {a0 a1 : Nat} (hne : a0 ≠ a1) (hl : o_len a0 = o_len a1) (hL : o_len a1 < 1000) (ha : a1 < 41) : ∀ (n i : Nat) (σ : Sg), i ≤ o_len a1 → o_len a1 - i < n →
    ok_X5_copy_2 a0 a1 n (zI i) σ ∧ ∀ σ' : Sg, σ' = f_X5_copy_2 a0 a1 n (zI i) σ → (∀ c, c ≠ a1 → σ' c = σ c) ∧ (∀ k, k < i → σ' a1 k = σ a1 k) ∧ ∀ k, i ≤ k → k < o_len a1 → σ' a1 k = σ a0 k := by
  intro n
  induction n with
  | zero => intro i σ h1 h2; omega
  | succ n ih =>
    intro i σ h1 h2
    have e0 : (Int32.ofNat (o_len a0) ≤ zI i) ↔ o_len a1 ≤ i := by
      rw [z_on, z_le (by unfold zB; omega) (by unfold zB; omega)]
      omega
    have e1 : (Int32.ofNat (o_len a1) ≤ zI i) ↔ o_len a1 ≤ i := by
      rw [z_on, z_le (by unfold zB; omega) (by unfold zB; omega)]
      omega
    by_cases q : o_len a1 ≤ i
    · refine ⟨⟨fun _ => trivial, fun c => absurd (e0.mpr q) c⟩, fun σ' e => ?_⟩
      have e' : σ' = o_ite _ σ _ := e
      rw [itp (e0.mpr q)] at e'
      subst e'
      exact ⟨fun _ _ => rfl, fun _ _ => rfl, fun k k1 k2 => by omega⟩
    · have en : (zI (i : Int)).toNatClampNeg = i := by rw [z_nat (by unfold zB; omega)]; omega
      have ei : zI (i : Int) + 1 = zI ((i + 1 : Nat) : Int) := z_add i 1
      have k := ih (i + 1) (pu σ a1 i (σ a0 i)) (by omega) (by omega)
      have hok : ok_X5_copy_2 a0 a1 n (zI i + 1) (pu σ a1 (zI (i : Int)).toNatClampNeg (σ a0 (zI (i : Int)).toNatClampNeg)) := by
        rw [en, ei]
        exact k.1
      refine ⟨⟨fun c => absurd (e0.mp c) q, fun _ => ⟨fun c => absurd (e1.mp c) q, fun _ => ⟨z_in (by omega) (by omega) (by omega), z_in (by omega) (by omega) (by omega), hok⟩⟩⟩, fun σ' e => ?_⟩
      have e' : σ' = o_ite _ σ (o_ite _ σ (f_X5_copy_2 a0 a1 n (zI i + 1) (pu σ a1 (zI (i : Int)).toNatClampNeg (σ a0 (zI (i : Int)).toNatClampNeg)))) := e
      rw [itn (fun c => q (e0.mp c)), itn (fun c => q (e1.mp c)), en, ei] at e'
      obtain ⟨k1, k2, k3⟩ := k.2 σ' e'
      refine ⟨fun c hc => (k1 c hc).trans (pu_ne hc), fun j hj => (k2 j (by omega)).trans (pu_un (by omega)), fun j j1 j2 => ?_⟩
      by_cases qq : j = i
      · subst qq
        rw [k2 j (by omega), pu_at]
      · rw [k3 j (by omega) j2, pu_un (by omega)]
theorem copy_C {a0 a1 : Nat} {σ : Sg} (hne : a0 ≠ a1) (hl : o_len a0 = o_len a1) (hL : o_len a1 < 1000) (ha : a1 < 41) : ok_X5_copy a0 a1 σ ∧ ∀ σ' : Sg, σ' = f_X5_copy a0 a1 σ → (∀ c, c ≠ a1 → σ' c = σ c) ∧ ∀ k, k < o_len a1 → σ' a1 k = σ a0 k := by
  have r := copyLoop hne hl hL ha oF 0 σ (by omega) (by rw [oF_eq]; omega)
  exact ⟨r.1, fun σ' e => ⟨(r.2 σ' e).1, fun k hk => (r.2 σ' e).2.2 k (by omega) hk⟩⟩
