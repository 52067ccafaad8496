set_option linter.all false
/-- a state that differs in some places of one cell -/
def fr (c0 : Nat) (ks : List Nat) (σ σ' : Sg) : Prop := (∀ c, c ≠ c0 → σ' c = σ c) ∧ ∀ k, k ∉ ks → σ' c0 k = σ c0 k
theorem fr.rf {c0 : Nat} {ks : List Nat} {σ : Sg} : fr c0 ks σ σ := ⟨fun _ _ => rfl, fun _ _ => rfl⟩
theorem fr.tr {c0 : Nat} {ks : List Nat} {σ σ1 σ2 : Sg} (h : fr c0 ks σ σ1) (h2 : fr c0 ks σ1 σ2) : fr c0 ks σ σ2 := ⟨fun c hc => (h2.1 c hc).trans (h.1 c hc), fun k hk => (h2.2 k hk).trans (h.2 k hk)⟩
theorem fr.pu {c0 k : Nat} {ks : List Nat} {σ : Sg} {x : Int32} (hk : k ∈ ks) : fr c0 ks σ (pu σ c0 k x) := ⟨fun c hc => pu_ne hc, fun j hj => pu_un (fun q => hj (q.2 ▸ hk))⟩
theorem fr.up {c0 : Nat} {ks ks' : List Nat} {σ σ' : Sg} (h : fr c0 ks σ σ') (hs : ∀ k, k ∈ ks → k ∈ ks') : fr c0 ks' σ σ' := ⟨h.1, fun k hk => h.2 k (fun q => hk (hs k q))⟩
theorem nearer_ok {a b : Int32} {σ : Sg} : ok_X6_nearer a b σ := ⟨fun _ => trivial, fun _ => trivial⟩
theorem nearer_M {L i x : Int} {σ : Sg} (hL : 0 < L) (hL2 : L < 1000) : f_X6_nearer (zI ((i - x) % L)) (zI L) σ = zI (dist L i x) := by
  have h3 := Int.emod_nonneg (i - x) (show L ≠ 0 by omega)
  have h4 := Int.emod_lt_of_pos (i - x) (show 0 < L by omega)
  unfold f_X6_nearer
  rw [z_sub, it_iff (z_le ⟨by omega, by omega⟩ ⟨by omega, by omega⟩), it_z, dist_off hL]
theorem mx_as (a b c : Int) : mx (mx a b) c = mx a (mx b c) := by
  unfold mx
  split <;> split <;> (try split) <;> (try split) <;> omega
/-- one step around the three rims -/
theorem f185 {x z i : Int} {x4 y0 : Int32} {σ : Sg} {K : Int32 → Int32 → Int32 → Int32 → Sg → Sg} {okK : Int32 → Int32 → Int32 → Int32 → Sg → Prop} (hi : 0 ≤ i ∧ i < 4080) :
    f_X6_finds_185 K x4 (zI ((i - z) % 240)) (zI i) y0 σ = K x4 y0 (zI ((i + 1 - z) % 240)) (zI (i + 1)) σ ∧ (okK x4 y0 (zI ((i + 1 - z) % 240)) (zI (i + 1)) σ → ok_X6_finds_185 okK x4 (zI ((i - z) % 240)) (zI i) y0 σ) := by
  have h3 := Int.emod_nonneg (i - z) (show (240 : Int) ≠ 0 by omega)
  have h4 := Int.emod_lt_of_pos (i - z) (show (0 : Int) < 240 by omega)
  have e : (zI ((i - z) % 240) = 239) ↔ (i - z) % 240 + 1 = 240 := by
    rw [z_n, z_eq ⟨by omega, by omega⟩ ⟨by omega, by omega⟩]
    omega
  have em : (i + 1 - z) % 240 = if (i - z) % 240 + 1 = 240 then 0 else (i - z) % 240 + 1 := by
    rw [show i + 1 - z = i - z + 1 by omega, mod_s (by omega)]
  have e1 : zI i + 1 = zI (i + 1) := z_add i 1
  have e2 : zI ((i - z) % 240) + 1 = zI ((i - z) % 240 + 1) := z_add _ 1
  unfold f_X6_finds_185 ok_X6_finds_185
  rw [e1, e2, em]
  by_cases q : (i - z) % 240 + 1 = 240
  · rw [if_pos q, itp (e.mpr q)]
    exact ⟨rfl, fun h => ⟨fun _ => h, fun c => absurd (e.mpr q) c⟩⟩
  · rw [if_neg q, itn (fun c => q (e.mp c))]
    exact ⟨rfl, fun h => ⟨fun c => absurd (e.mp c) q, fun _ => h⟩⟩
theorem f167 {y z i : Int} {y0 : Int32} {σ : Sg} {K : Int32 → Int32 → Int32 → Int32 → Sg → Sg} {okK : Int32 → Int32 → Int32 → Int32 → Sg → Prop} (hi : 0 ≤ i ∧ i < 4080) :
    f_X6_finds_167 K (zI ((i - y) % 255)) (zI ((i - z) % 240)) (zI i) y0 σ = K y0 (zI ((i + 1 - y) % 255)) (zI ((i + 1 - z) % 240)) (zI (i + 1)) σ ∧ (okK y0 (zI ((i + 1 - y) % 255)) (zI ((i + 1 - z) % 240)) (zI (i + 1)) σ → ok_X6_finds_167 okK (zI ((i - y) % 255)) (zI ((i - z) % 240)) (zI i) y0 σ) := by
  have h3 := Int.emod_nonneg (i - y) (show (255 : Int) ≠ 0 by omega)
  have h4 := Int.emod_lt_of_pos (i - y) (show (0 : Int) < 255 by omega)
  have e : (zI ((i - y) % 255) = 254) ↔ (i - y) % 255 + 1 = 255 := by
    rw [z_n, z_eq ⟨by omega, by omega⟩ ⟨by omega, by omega⟩]
    omega
  have em : (i + 1 - y) % 255 = if (i - y) % 255 + 1 = 255 then 0 else (i - y) % 255 + 1 := by
    rw [show i + 1 - y = i - y + 1 by omega, mod_s (by omega)]
  have e2 : zI ((i - y) % 255) + 1 = zI ((i - y) % 255 + 1) := z_add _ 1
  unfold f_X6_finds_167 ok_X6_finds_167
  rw [e2, em]
  by_cases q : (i - y) % 255 + 1 = 255
  · rw [if_pos q, itp (e.mpr q)]
    have r := f185 (x := 0) (z := z) (x4 := y0) (y0 := 0) (σ := σ) (K := K) (okK := okK) hi
    exact ⟨r.1, fun h => ⟨fun _ => r.2 h, fun c => absurd (e.mpr q) c⟩⟩
  · rw [if_neg q, itn (fun c => q (e.mp c))]
    have r := f185 (x := 0) (z := z) (x4 := y0) (y0 := zI ((i - y) % 255 + 1)) (σ := σ) (K := K) (okK := okK) hi
    exact ⟨r.1, fun h => ⟨fun c => absurd (e.mp c) q, fun _ => r.2 h⟩⟩
theorem f151 {x y z i : Int} {σ : Sg} {K : Int32 → Int32 → Int32 → Int32 → Sg → Sg} {okK : Int32 → Int32 → Int32 → Int32 → Sg → Prop} (hi : 0 ≤ i ∧ i < 4080) :
    f_X6_finds_151 K (zI ((i - x) % 272)) (zI ((i - y) % 255)) (zI ((i - z) % 240)) (zI i) σ = K (zI ((i + 1 - x) % 272)) (zI ((i + 1 - y) % 255)) (zI ((i + 1 - z) % 240)) (zI (i + 1)) σ ∧ (okK (zI ((i + 1 - x) % 272)) (zI ((i + 1 - y) % 255)) (zI ((i + 1 - z) % 240)) (zI (i + 1)) σ → ok_X6_finds_151 okK (zI ((i - x) % 272)) (zI ((i - y) % 255)) (zI ((i - z) % 240)) (zI i) σ) := by
  have h3 := Int.emod_nonneg (i - x) (show (272 : Int) ≠ 0 by omega)
  have h4 := Int.emod_lt_of_pos (i - x) (show (0 : Int) < 272 by omega)
  have e : (zI ((i - x) % 272) = 271) ↔ (i - x) % 272 + 1 = 272 := by
    rw [z_n, z_eq ⟨by omega, by omega⟩ ⟨by omega, by omega⟩]
    omega
  have em : (i + 1 - x) % 272 = if (i - x) % 272 + 1 = 272 then 0 else (i - x) % 272 + 1 := by
    rw [show i + 1 - x = i - x + 1 by omega, mod_s (by omega)]
  have e2 : zI ((i - x) % 272) + 1 = zI ((i - x) % 272 + 1) := z_add _ 1
  unfold f_X6_finds_151 ok_X6_finds_151
  rw [e2, em]
  by_cases q : (i - x) % 272 + 1 = 272
  · rw [if_pos q, itp (e.mpr q)]
    have r := f167 (y := y) (z := z) (y0 := 0) (σ := σ) (K := K) (okK := okK) hi
    exact ⟨r.1, fun h => ⟨fun _ => r.2 h, fun c => absurd (e.mpr q) c⟩⟩
  · rw [if_neg q, itn (fun c => q (e.mp c))]
    have r := f167 (y := y) (z := z) (y0 := zI ((i - x) % 272 + 1)) (σ := σ) (K := K) (okK := okK) hi
    exact ⟨r.1, fun h => ⟨fun c => absurd (e.mp c) q, fun _ => r.2 h⟩⟩
/-- the reference: all angles -/
theorem findsLoop {x y z : Int} : ∀ (n : Nat) (i m B : Int) (σ : Sg), 0 ≤ i → i ≤ 4080 → 4080 - i < n → σ 34 5 = zI m → σ 34 6 = zI B → (i = 0 ∧ m = 0 ∧ B = 4080 ∨ 0 ≤ m ∧ m < i ∧ B = dev m x y z ∧ (∀ b : Int, 0 ≤ b → b < i → dev m x y z ≤ dev b x y z) ∧ ∀ b : Int, 0 ≤ b → b < m → dev m x y z < dev b x y z) →
    ok_X6_finds_60 n (zI ((i - x) % 272)) (zI ((i - y) % 255)) (zI ((i - z) % 240)) (zI i) σ ∧ ∀ σ' : Sg, σ' = f_X6_finds_60 n (zI ((i - x) % 272)) (zI ((i - y) % 255)) (zI ((i - z) % 240)) (zI i) σ → σ' 34 5 = zI (near x y z) ∧ σ' 34 6 = zI (dev (near x y z) x y z) ∧ fr 34 [5, 6] σ σ' := by
  intro n
  induction n with
  | zero => intro i m B σ h1 h2 h3; omega
  | succ n ih =>
    intro i m B σ h1 h2 h3 hm hB hI
    have e1 : ((4080 : Int32) ≤ zI i) ↔ 4080 ≤ i := by rw [z_n]; exact z_le (by unfold zB; omega) (by unfold zB; omega)
    by_cases q1 : 4080 ≤ i
    · refine ⟨⟨fun _ => trivial, fun c => absurd (e1.mpr q1) c⟩, fun σ' e => ?_⟩
      have e' : σ' = o_ite _ σ _ := e
      rw [itp (e1.mpr q1)] at e'
      rcases hI with hI | ⟨a1, a2, a3, a4, a5⟩
      · omega
      · have hn : m = near x y z := near_eq ⟨a1, by omega, fun b b1 b2 => a4 b b1 (by omega), a5⟩
        subst e'
        refine ⟨by rw [hm, hn], by rw [hB, a3, hn], fr.rf⟩
    · have hi : 0 ≤ i ∧ i < 4080 := ⟨h1, by omega⟩
      have n0 : f_X6_nearer (zI ((i - x) % 272)) 272 σ = zI (dist 272 i x) := nearer_M (L := 272) (by omega) (by omega)
      have n1 : f_X6_nearer (zI ((i - y) % 255)) 255 σ = zI (dist 255 i y) := nearer_M (L := 255) (by omega) (by omega)
      have n2 : f_X6_nearer (zI ((i - z) % 240)) 240 σ = zI (dist 240 i z) := nearer_M (L := 240) (by omega) (by omega)
      have b0 := dist_b (L := 272) (a := i) (b := x) (by omega)
      have b1 := dist_b (L := 255) (a := i) (b := y) (by omega)
      have b2 := dist_b (L := 240) (a := i) (b := z) (by omega)
      have bd := dev_b i x y z
      have bB : zB B := by
        rcases hI with hI | ⟨a1, a2, a3, a4, a5⟩
        · unfold zB; omega
        · have := dev_b m x y z
          unfold zB; omega
      -- behind the maximum
      have s128 : ok_X6_finds_128 (ok_X6_finds_60 n) (zI ((i - x) % 272)) (zI ((i - y) % 255)) (zI ((i - z) % 240)) (zI i) (zI (dev i x y z)) σ ∧ ∀ σ' : Sg, σ' = f_X6_finds_128 (f_X6_finds_60 n) (zI ((i - x) % 272)) (zI ((i - y) % 255)) (zI ((i - z) % 240)) (zI i) (zI (dev i x y z)) σ → σ' 34 5 = zI (near x y z) ∧ σ' 34 6 = zI (dev (near x y z) x y z) ∧ fr 34 [5, 6] σ σ' := by
        have e2 : (σ 34 6 ≤ zI (dev i x y z)) ↔ B ≤ dev i x y z := by rw [hB]; exact z_le bB (by unfold zB; omega)
        by_cases q : B ≤ dev i x y z
        · have r := f151 (x := x) (y := y) (z := z) (σ := σ) (K := f_X6_finds_60 n) (okK := ok_X6_finds_60 n) hi
          have k := ih (i + 1) m B σ (by omega) (by omega) (by omega) hm hB (by
            rcases hI with hI | ⟨a1, a2, a3, a4, a5⟩
            · omega
            · refine Or.inr ⟨a1, by omega, a3, fun b c1 c2 => ?_, a5⟩
              by_cases qq : b < i
              · exact a4 b c1 qq
              · rw [show b = i by omega]; omega)
          refine ⟨⟨fun _ => r.2 k.1, fun c => absurd (e2.mpr q) c⟩, fun σ' e => ?_⟩
          have e' : σ' = o_ite _ _ _ := e
          rw [itp (e2.mpr q), r.1] at e'
          exact k.2 σ' e'
        · have r := f151 (x := x) (y := y) (z := z) (σ := pu (pu σ 34 6 (zI (dev i x y z))) 34 5 (zI i)) (K := f_X6_finds_60 n) (okK := ok_X6_finds_60 n) hi
          have k := ih (i + 1) i (dev i x y z) (pu (pu σ 34 6 (zI (dev i x y z))) 34 5 (zI i)) (by omega) (by omega) (by omega) pu_at (by rw [pu_un (by omega), pu_at]) (by
            refine Or.inr ⟨h1, by omega, rfl, fun b c1 c2 => ?_, fun b c1 c2 => ?_⟩
            · by_cases qq : b < i
              · rcases hI with hI | ⟨a1, a2, a3, a4, a5⟩
                · omega
                · have := a4 b c1 qq
                  omega
              · rw [show b = i by omega]; omega
            · rcases hI with hI | ⟨a1, a2, a3, a4, a5⟩
              · omega
              · have := a4 b c1 c2
                omega)
          refine ⟨⟨fun c => absurd (e2.mp c) q, fun _ => r.2 k.1⟩, fun σ' e => ?_⟩
          have e' : σ' = o_ite _ _ _ := e
          rw [itn (fun c => q (e2.mp c))] at e'
          have k2 := k.2 σ' (e'.trans r.1)
          exact ⟨k2.1, k2.2.1, ((fr.pu (by decide)).tr (fr.pu (by decide))).tr k2.2.2⟩
      have s102 : ∀ d : Int, 0 ≤ d → d < 1000 → mx d (dist 240 i z) = dev i x y z → ok_X6_finds_102 (ok_X6_finds_60 n) (zI ((i - x) % 272)) (zI ((i - y) % 255)) (zI ((i - z) % 240)) (zI i) (zI d) σ ∧ ∀ σ' : Sg, σ' = f_X6_finds_102 (f_X6_finds_60 n) (zI ((i - x) % 272)) (zI ((i - y) % 255)) (zI ((i - z) % 240)) (zI i) (zI d) σ → σ' 34 5 = zI (near x y z) ∧ σ' 34 6 = zI (dev (near x y z) x y z) ∧ fr 34 [5, 6] σ σ' := by
        intro d d1 d2 hd
        have e2 : (f_X6_nearer (zI ((i - z) % 240)) 240 σ ≤ zI d) ↔ dist 240 i z ≤ d := by rw [n2]; exact z_le (by unfold zB; omega) (by unfold zB; omega)
        unfold mx at hd
        by_cases q : dist 240 i z ≤ d
        · rw [if_neg (by omega)] at hd
          subst hd
          refine ⟨⟨nearer_ok, ⟨fun _ => s128.1, fun c => absurd (e2.mpr q) c⟩⟩, fun σ' e => ?_⟩
          have e' : σ' = o_ite _ _ _ := e
          rw [itp (e2.mpr q)] at e'
          exact s128.2 σ' e'
        · rw [if_pos (by omega)] at hd
          refine ⟨⟨nearer_ok, ⟨fun c => absurd (e2.mp c) q, fun _ => by rw [n2, hd]; exact s128.1⟩⟩, fun σ' e => ?_⟩
          have e' : σ' = o_ite _ _ _ := e
          rw [itn (fun c => q (e2.mp c)), n2, hd] at e'
          exact s128.2 σ' e'
      have e3 : (f_X6_nearer (zI ((i - y) % 255)) 255 σ ≤ f_X6_nearer (zI ((i - x) % 272)) 272 σ) ↔ dist 255 i y ≤ dist 272 i x := by rw [n0, n1]; exact z_le (by unfold zB; omega) (by unfold zB; omega)
      have hdv : mx (mx (dist 272 i x) (dist 255 i y)) (dist 240 i z) = dev i x y z := mx_as _ _ _
      by_cases q : dist 255 i y ≤ dist 272 i x
      · have hm1 : mx (dist 272 i x) (dist 255 i y) = dist 272 i x := if_neg (by omega)
        rw [hm1] at hdv
        have k := s102 (dist 272 i x) (by omega) (by omega) hdv
        refine ⟨⟨fun c => absurd (e1.mp c) q1, fun _ => ⟨nearer_ok, nearer_ok, ⟨fun _ => by rw [n0]; exact k.1, fun c => absurd (e3.mpr q) c⟩⟩⟩, fun σ' e => ?_⟩
        have e' : σ' = o_ite _ _ (o_ite _ _ _) := e
        rw [itn (fun c => q1 (e1.mp c)), itp (e3.mpr q), n0] at e'
        exact k.2 σ' e'
      · have hm1 : mx (dist 272 i x) (dist 255 i y) = dist 255 i y := if_pos (by omega)
        rw [hm1] at hdv
        have k := s102 (dist 255 i y) (by omega) (by omega) hdv
        refine ⟨⟨fun c => absurd (e1.mp c) q1, fun _ => ⟨nearer_ok, nearer_ok, ⟨fun c => absurd (e3.mp c) q, fun _ => by rw [n1]; exact k.1⟩⟩⟩, fun σ' e => ?_⟩
        have e' : σ' = o_ite _ _ (o_ite _ _ _) := e
        rw [itn (fun c => q1 (e1.mp c)), itn (fun c => q (e3.mp c)), n1] at e'
        exact k.2 σ' e'
