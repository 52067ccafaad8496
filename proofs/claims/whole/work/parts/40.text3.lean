set_option linter.all false
noncomputable def eZ (L : Nat) (tx : Nat → Int) (i : Nat) : Int := if ch L tx (i + 2) = 45 then - eN L tx i else eN L tx i
theorem tk_C {σ : Sg} {L : Nat} {tx : Nat → Int} {i : Nat} (h : EC σ L tx) (hL : L ≤ 60) (hT : TX L tx) (hi : i ≤ 60) (ho : eOK L tx i) (h0 : eT L tx i ≤ 2) (h1 : eT L tx (i + 1) ≤ 7) : ok_X0_takeEntry (zI i) σ ∧ f_X0_takeEntry (zI i) σ = pu (pu (pu σ 32 (8 * eT L tx i + eT L tx (i + 1)) (zI (eZ L tx i))) 33 (8 * eT L tx i + eT L tx (i + 1)) 1) 30 4 (σ 30 4 + 1) := by
  have k2 : zI (i : Int) + 2 = zI ((i + 2 : Nat) : Int) := zk 2
  have c2 := ch_C (k := i + 2) h hL (by omega)
  have am := am_C h hL hT (show i ≤ 500 by omega)
  have cc := ec_C h hL (show i ≤ 500 by omega) ho.1 ho.2.1
  have b2 := ch_b hT (i + 2)
  have p45 : (zI (ch L tx (i + 2)) = 45) ↔ ch L tx (i + 2) = 45 := by rw [z_n]; exact z_eq (by unfold zB; omega) (by unfold zB; omega)
  obtain ⟨a, ha⟩ : ∃ a : Nat, a = 8 * eT L tx i + eT L tx (i + 1) := ⟨_, rfl⟩
  rw [← ha] at cc ⊢
  have ha2 : a < 24 := by omega
  have S : ∀ y : Int32, ok_X0_takeEntry_33 (zI i) y (zI a) σ ∧ f_X0_takeEntry_33 (zI i) y (zI a) σ = pu (pu (pu σ 32 a y) 33 a 1) 30 4 (σ 30 4 + 1) := fun y => by
    have p : f_X5_put 32 (zI a) y σ = pu σ 32 a y := put_in (show a < o_len 32 from ha2) (by decide)
    have hE : EC (pu σ 32 a y) L tx := h.fr (by rw [pu_ne (by omega)]) (by rw [pu_ne (by omega)])
    have cc2 := ec_C hE hL (show i ≤ 500 by omega) ho.1 ho.2.1
    rw [← ha] at cc2
    have p2 : f_X5_put 33 (zI a) 1 (pu σ 32 a y) = pu (pu σ 32 a y) 33 a 1 := put_in (show a < o_len 33 from ha2) (by decide)
    constructor
    · unfold ok_X0_takeEntry_33
      dsimp only
      rw [p]
      exact ⟨put_ok (by decide), cc2.1, put_ok (by decide), trivial⟩
    · unfold f_X0_takeEntry_33
      dsimp only
      rw [p, cc2.2, p2]
      have e : pu (pu σ 32 a y) 33 a 1 30 4 = σ 30 4 := by rw [pu_ne (by omega), pu_ne (by omega)]
      rw [e]
  unfold ok_X0_takeEntry f_X0_takeEntry
  rw [k2, c2.2, cc.2, am.2]
  refine ⟨⟨am.1, cc.1, c2.1, ⟨fun _ => (S _).1, fun _ => (S _).1⟩⟩, ?_⟩
  unfold eZ
  by_cases q : ch L tx (i + 2) = 45
  · rw [itp (p45.mpr q), if_pos q, (S _).2, z_neg]
  · rw [itn (fun c => q (p45.mp c)), if_neg q, (S _).2]
theorem z_max1 {a : Int} (h : 1 < a ∧ a < 1000) : (if (1 : Int32) < zI a then zI a else 1) = zI a := by
  have e : ((1 : Int32) < zI a) ↔ 1 < a := by rw [z_n]; exact z_lt (by unfold zB; omega) (by unfold zB; omega)
  rw [if_pos (e.mpr h.1)]
/-- one entry taken, the class -/
theorem step_C {σ : Sg} {L : Nat} {tx : Nat → Int} {i : Nat} {n : Nat} (h : EC σ L tx) (hL : L ≤ 60) (hT : TX L tx) (hi : i < L) (h5 : σ 30 5 = zI i) (h6 : σ 30 6 = 0) (ho : eOK L tx i) (h0 : eT L tx i ≤ 2) (h1 : eT L tx (i + 1) ≤ 7) (hf : f_X0_entryFault (zI i) σ = 0) :
    ∃ σ' : Sg, f_X0_scan_47 (n + 1) σ = f_X0_scan_47 n σ' ∧ (ok_X0_scan_47 n σ' → ok_X0_scan_47 (n + 1) σ) ∧ σ' 30 1 = σ 30 1 ∧ σ' 30 4 = σ 30 4 + 1 ∧ σ' 30 5 = zI ((eE L tx i + 1 : Nat) : Int) ∧ σ' 30 6 = 0 ∧ (∀ c, c ≠ 30 → c ≠ 32 → c ≠ 33 → σ' c = σ c) ∧ (∀ k, σ' 32 k = if k = 8 * eT L tx i + eT L tx (i + 1) then zI (eZ L tx i) else σ 32 k) ∧ ∀ k, σ' 33 k = if k = 8 * eT L tx i + eT L tx (i + 1) then 1 else σ 33 k := by
  have be := eE_b L tx i
  have e1 : (σ 30 1 ≤ σ 30 5) ↔ L ≤ i := by
    rw [h.1, h5, z_le (by unfold zB; omega) (by unfold zB; omega)]
    omega
  have ef := ef_C h hL hT (show i ≤ 60 by omega)
  obtain ⟨w, hw⟩ : ∃ w : Sg, w = pu σ 30 6 0 := ⟨_, rfl⟩
  have hwE : EC w L tx := h.fr (by rw [hw, pu_un (by omega)]) (by rw [hw, pu_ne (by omega)])
  have w5 : w 30 5 = zI i := by rw [hw, pu_un (by omega)]; exact h5
  have w6 : w 30 6 = 0 := by rw [hw, pu_at]
  have w4 : w 30 4 = σ 30 4 := by rw [hw, pu_un (by omega)]
  have tk := tk_C hwE hL hT (show i ≤ 60 by omega) ho h0 h1
  obtain ⟨u, hu⟩ : ∃ u : Sg, u = f_X0_takeEntry (zI i) w := ⟨_, rfl⟩
  have ue : u = pu (pu (pu w 32 (8 * eT L tx i + eT L tx (i + 1)) (zI (eZ L tx i))) 33 (8 * eT L tx i + eT L tx (i + 1)) 1) 30 4 (w 30 4 + 1) := hu.trans tk.2
  have huE : EC u L tx := hwE.fr (by rw [ue, pu_un (by omega), pu_ne (by omega), pu_ne (by omega)]) (by rw [ue, pu_ne (by omega), pu_ne (by omega), pu_ne (by omega)])
  have u5 : u 30 5 = zI i := by rw [ue, pu_un (by omega), pu_ne (by omega), pu_ne (by omega)]; exact w5
  have l := eL_C huE hL hT (show i ≤ 500 by omega)
  have l2 := l.2.2 ho
  have x : zI (i : Int) + (if (1 : Int32) < zI ((eE L tx i : Int) + 1 - i) then zI ((eE L tx i : Int) + 1 - i) else 1) = zI ((eE L tx i + 1 : Nat) : Int) := by
    rw [z_max1 ⟨by omega, by omega⟩, z_add]
    exact congrArg zI (by omega)
  obtain ⟨y, hy⟩ : ∃ y : Sg, y = pu u 30 5 (zI ((eE L tx i + 1 : Nat) : Int)) := ⟨_, rfl⟩
  refine ⟨y, ?_, fun hok => ?_, ?_, ?_, ?_, ?_, fun c a b d => ?_, fun k => ?_, fun k => ?_⟩
  · show o_ite _ _ (o_ite _ _ _) = _
    rw [itn (fun c => absurd (e1.mp c) (by omega)), itp h6, h5, hf]
    dsimp only
    rw [← hw, w6, itp rfl, w5, ← hu, u5, l2, x, ← hy]
  · refine ⟨fun c => absurd (e1.mp c) (by omega), fun _ => ⟨fun _ => ?_, fun _ => trivial⟩⟩
    rw [h5]
    refine ⟨ef.1, ?_⟩
    dsimp only
    rw [hf, ← hw]
    refine ⟨fun _ => ?_, fun c => absurd w6 c⟩
    rw [w5]
    refine ⟨tk.1, ?_⟩
    rw [← hu, u5]
    refine ⟨l.1, ?_⟩
    rw [l2, x, ← hy]
    exact hok
  · rw [hy, pu_un (by omega), ue, pu_un (by omega), pu_ne (by omega), pu_ne (by omega), hw, pu_un (by omega)]
  · rw [hy, pu_un (by omega), ue, pu_at, w4]
  · rw [hy, pu_at]
  · rw [hy, pu_un (by omega), ue, pu_un (by omega), pu_ne (by omega), pu_ne (by omega)]; exact w6
  · rw [hy, pu_ne a, ue, pu_ne a, pu_ne d, pu_ne b, hw, pu_ne a]
  · rw [hy, pu_ne (by omega), ue, pu_ne (by omega), pu_ne (by omega)]
    by_cases q : k = 8 * eT L tx i + eT L tx (i + 1)
    · rw [if_pos q, q, pu_at]
    · rw [if_neg q, pu_un (by omega), hw, pu_ne (by omega)]
  · rw [hy, pu_ne (by omega), ue, pu_ne (by omega)]
    by_cases q : k = 8 * eT L tx i + eT L tx (i + 1)
    · rw [if_pos q, q, pu_at]
    · rw [if_neg q, pu_un (by omega), pu_ne (by omega), hw, pu_ne (by omega)]
/-- one entry taken, the reference -/
theorem step_M {σ : Sg} {L : Nat} {tx : Nat → Int} {i : Nat} {n : Nat} (h : EM σ L tx) (hL : L ≤ 60) (hT : TX L tx) (hi : i < L) (h10 : σ 34 10 = zI i) (ho : eOK L tx i) (h0 : eT L tx i ≤ 2) (h1 : eT L tx (i + 1) ≤ 7) (hf : eX σ L tx i = 0) :
    ∃ σ' : Sg, f_X6_reads_38 (n + 1) σ = f_X6_reads_38 n σ' ∧ (ok_X6_reads_38 n σ' → ok_X6_reads_38 (n + 1) σ) ∧ σ' 34 17 = σ 34 17 + 1 ∧ σ' 34 10 = zI ((eE L tx i + 1 : Nat) : Int) ∧ (∀ c, c ≠ 34 → c ≠ 39 → c ≠ 40 → σ' c = σ c) ∧ (∀ k, k ∉ [10, 11, 12, 13, 14, 17] → σ' 34 k = σ 34 k) ∧ (∀ k, σ' 40 k = if k = 10 * eT L tx i + eT L tx (i + 1) then zI (eZ L tx i) else σ 40 k) ∧ ∀ k, σ' 39 k = if k = 10 * eT L tx i + eT L tx (i + 1) then 1 else σ 39 k := by
  have e1 : (σ 34 4 ≤ σ 34 10) ↔ L ≤ i := by
    rw [h.1, h10, z_le (by unfold zB; omega) (by unfold zB; omega)]
    omega
  have k2 : zI (i : Int) + 2 = zI ((i + 2 : Nat) : Int) := zk 2
  have en := en_M h hL hT (show i ≤ 60 by omega) h10
  obtain ⟨g0, g12, g13, g14, g11, gf⟩ := en.2.2 ho _ rfl
  obtain ⟨w, hw⟩ : ∃ w : Sg, w = (f_X6_entry σ).2 := ⟨_, rfl⟩
  rw [← hw] at g12 g13 g14 g11 gf
  rw [hf] at g0
  have ei : (10 : Int32) * zI (eT L tx i : Int) + zI (eT L tx (i + 1) : Int) = zI ((10 * eT L tx i + eT L tx (i + 1) : Nat) : Int) := by
    have m : (10 : Int32) * zI (eT L tx i : Int) = zI (10 * (eT L tx i : Int)) := z_mul 10 _
    rw [m, z_add]
    exact congrArg zI (by omega)
  obtain ⟨a, ha⟩ : ∃ a : Nat, a = 10 * eT L tx i + eT L tx (i + 1) := ⟨_, rfl⟩
  rw [← ha] at ei ⊢
  have ha2 : a < 30 := by omega
  have ta : (zI (a : Int)).toNatClampNeg = a := z_tn (by omega)
  have va : vp_in (zI (a : Int)) 30 := z_in (by omega) (by omega) (by omega)
  obtain ⟨u, hu⟩ : ∃ u : Sg, u = pu w 39 a 1 := ⟨_, rfl⟩
  have u34 : u 34 = w 34 := by rw [hu, pu_ne (by omega)]
  have u10 : u 34 10 = zI i := by rw [u34, gf.2 10 (by decide)]; exact h10
  have hE : EM u L tx := h.fr (by rw [u34, gf.2 4 (by decide)]) (by rw [hu, pu_ne (by omega), gf.1 37 (by omega)])
  have c2 := ch_M (k := i + 2) hE hL (by omega)
  have b2 := ch_b hT (i + 2)
  have p45 : (zI (ch L tx (i + 2)) = 45) ↔ ch L tx (i + 2) = 45 := by rw [z_n]; exact z_eq (by unfold zB; omega) (by unfold zB; omega)
  obtain ⟨y, hy⟩ : ∃ y : Sg, y = pu (pu (pu u 40 a (zI (eZ L tx i))) 34 17 (u 34 17 + 1)) 34 10 (u 34 11) := ⟨_, rfl⟩
  have R : ∀ Y : Int32, Y = zI (eZ L tx i) → f_X6_reads_121 (f_X6_reads_38 n) Y (zI a) u = f_X6_reads_38 n y ∧ (ok_X6_reads_38 n y → ok_X6_reads_121 (ok_X6_reads_38 n) Y (zI a) u) := fun Y hY => by
    have s1 : pu u 40 a (zI (eZ L tx i)) 34 17 = u 34 17 := by rw [pu_ne (by omega)]
    have s2 : pu (pu u 40 a (zI (eZ L tx i))) 34 17 (u 34 17 + 1) 34 11 = u 34 11 := by rw [pu_un (by omega), pu_ne (by omega)]
    constructor
    · unfold f_X6_reads_121
      dsimp only
      rw [ta, hY, s1, s2, ← hy]
    · intro hok
      unfold ok_X6_reads_121
      dsimp only
      rw [ta, hY, s1, s2, ← hy]
      exact ⟨va, hok⟩
  have B : f_X6_reads_38 (n + 1) σ = o_ite (zI (ch L tx (i + 2)) = 45) (f_X6_reads_121 (f_X6_reads_38 n) (-(u 34 14)) (zI a) u) (f_X6_reads_121 (f_X6_reads_38 n) (u 34 14) (zI a) u) := by
    have e : f_X6_reads_38 (n + 1) σ = o_ite (σ 34 4 ≤ σ 34 10) (0, σ) _ := rfl
    rw [e, itn (fun c => absurd (e1.mp c) (by omega))]
    dsimp only
    rw [g0, itp (show (0 : Int32) ≤ 0 from by decide), ← hw, g12, g13, ei, ta, ← hu, u10, k2, c2.2]
    have u12 : u 34 12 = zI (eT L tx i : Int) := by rw [u34]; exact g12
    have u13 : u 34 13 = zI (eT L tx (i + 1) : Int) := by rw [u34]; exact g13
    rw [u12, u13, ei]
  have u14 : u 34 14 = zI (eN L tx i) := by rw [u34]; exact g14
  have u11 : u 34 11 = zI ((eE L tx i + 1 : Nat) : Int) := by rw [u34]; exact g11
  have n14 : ch L tx (i + 2) = 45 → -(u 34 14) = zI (eZ L tx i) := fun q => by unfold eZ; rw [if_pos q, u14, z_neg]
  have m14 : ¬ ch L tx (i + 2) = 45 → u 34 14 = zI (eZ L tx i) := fun q => by unfold eZ; rw [if_neg q, u14]
  refine ⟨y, ?_, fun hok => ?_, ?_, ?_, fun c p q r => ?_, fun k hk => ?_, fun k => ?_, fun k => ?_⟩
  · rw [B]
    by_cases q : ch L tx (i + 2) = 45
    · rw [itp (p45.mpr q)]
      exact (R _ (n14 q)).1
    · rw [itn (fun c => q (p45.mp c))]
      exact (R _ (m14 q)).1
  · refine ⟨fun c => absurd (e1.mp c) (by omega), fun _ => ⟨en.1, ?_⟩⟩
    dsimp only
    rw [g0, ← hw, g12, g13, ei, ta, ← hu, u10, k2, c2.2]
    have u12 : u 34 12 = zI (eT L tx i : Int) := by rw [u34]; exact g12
    have u13 : u 34 13 = zI (eT L tx (i + 1) : Int) := by rw [u34]; exact g13
    rw [u12, u13, ei]
    exact ⟨fun _ => ⟨va, c2.1, ⟨fun c => (R _ (n14 (p45.mp c))).2 hok, fun c => (R _ (m14 (fun d => c (p45.mpr d)))).2 hok⟩⟩, fun c => absurd (by decide) c⟩
  · rw [hy, pu_un (by omega), pu_at, u34, gf.2 17 (by decide)]
  · rw [hy, pu_at, u11]
  · rw [hy, pu_ne p, pu_ne p, pu_ne r, hu, pu_ne q, gf.1 c p]
  · have k17 : k ≠ 17 := fun c => hk (by rw [c]; decide)
    have k10 : k ≠ 10 := fun c => hk (by rw [c]; decide)
    rw [hy, pu_un (by omega), pu_un (by omega), pu_ne (by omega), u34, gf.2 k (fun c => hk (by
      have : ∀ k, k ∈ [11, 12, 13, 14] → k ∈ [10, 11, 12, 13, 14, 17] := by decide
      exact this k c))]
  · rw [hy, pu_ne (by omega), pu_ne (by omega)]
    by_cases q : k = a
    · rw [if_pos q, q, pu_at]
    · rw [if_neg q, pu_un (by omega), hu, pu_ne (by omega), gf.1 40 (by omega)]
  · rw [hy, pu_ne (by omega), pu_ne (by omega), pu_ne (by omega), hu]
    by_cases q : k = a
    · rw [if_pos q, q, pu_at]
    · rw [if_neg q, pu_un (by omega), gf.1 39 (by omega)]
