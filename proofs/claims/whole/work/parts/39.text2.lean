set_option linter.all false
theorem EM.fr {σ σ' : Sg} {L : Nat} {tx : Nat → Int} (h : EM σ L tx) (h1 : σ' 34 4 = σ 34 4) (h2 : σ' 37 = σ 37) : EM σ' L tx := ⟨by rw [h1]; exact h.1, fun k hk => by rw [h2]; exact h.2 k hk⟩
theorem EC.fr {σ σ' : Sg} {L : Nat} {tx : Nat → Int} (h : EC σ L tx) (h1 : σ' 30 1 = σ 30 1) (h2 : σ' 31 = σ 31) : EC σ' L tx := ⟨by rw [h1]; exact h.1, fun k hk => by rw [h2]; exact h.2 k hk⟩
noncomputable def eX (σ : Sg) (L : Nat) (tx : Nat → Int) (i : Nat) : Int32 := if 2 < eT L tx i then 2 else if 7 < eT L tx (i + 1) then 3 else if 20 < eN L tx i then 4 else if σ 39 (10 * eT L tx i + eT L tx (i + 1)) = 1 then 5 else 0
theorem e206_M {σ : Sg} {L : Nat} {tx : Nat → Int} {i e : Nat} (h : EM σ L tx) (ho : eOK L tx i) (he : e ≤ 600) (h12 : σ 34 12 = zI (eT L tx i)) (h13 : σ 34 13 = zI (eT L tx (i + 1))) : ok_X6_entry_206 (zI e) (zI (eN L tx i)) σ ∧ ∀ q : Int32 × Sg, q = f_X6_entry_206 (zI e) (zI (eN L tx i)) σ → q.1 = eX σ L tx i ∧ q.2 34 14 = zI (eN L tx i) ∧ q.2 34 11 = zI ((e + 1 : Nat) : Int) ∧ fr 34 [11, 14] σ q.2 := by
  have t0 := eT_b ho.1
  have t1 := eT_b ho.2.1
  have bn := eN_b ho
  have z1 : zI (e : Int) + 1 = zI ((e + 1 : Nat) : Int) := zk 1
  obtain ⟨w, hw⟩ : ∃ w : Sg, w = pu (pu σ 34 14 (zI (eN L tx i))) 34 11 (zI ((e + 1 : Nat) : Int)) := ⟨_, rfl⟩
  have w14 : w 34 14 = zI (eN L tx i) := by rw [hw, pu_un (by omega), pu_at]
  have w11 : w 34 11 = zI ((e + 1 : Nat) : Int) := by rw [hw, pu_at]
  have w12 : w 34 12 = zI (eT L tx i) := by rw [hw, pu_un (by omega), pu_un (by omega)]; exact h12
  have w13 : w 34 13 = zI (eT L tx (i + 1)) := by rw [hw, pu_un (by omega), pu_un (by omega)]; exact h13
  have wf : fr 34 [11, 14] σ w := by
    rw [hw]
    exact (fr.pu (by decide)).tr (fr.pu (by decide))
  have w39 : w 39 = σ 39 := wf.1 39 (by omega)
  have e2 : (zI (eT L tx i : Int) ≤ 2) ↔ eT L tx i ≤ 2 := by rw [z_n, z_le (by unfold zB; omega) (by unfold zB; omega)]; omega
  have e7 : (zI (eT L tx (i + 1) : Int) ≤ 7) ↔ eT L tx (i + 1) ≤ 7 := by rw [z_n, z_le (by unfold zB; omega) (by unfold zB; omega)]; omega
  have e20 : (zI (eN L tx i) ≤ 20) ↔ eN L tx i ≤ 20 := by rw [z_n]; exact z_le (by unfold zB; omega) (by unfold zB; omega)
  have ei : (10 : Int32) * zI (eT L tx i : Int) + zI (eT L tx (i + 1) : Int) = zI ((10 * eT L tx i + eT L tx (i + 1) : Nat) : Int) := by
    have m : (10 : Int32) * zI (eT L tx i : Int) = zI (10 * (eT L tx i : Int)) := z_mul 10 _
    rw [m, z_add]
    exact congrArg zI (by omega)
  constructor
  · unfold ok_X6_entry_206
    dsimp only
    rw [z1, ← hw, w12, w13, w14, ei]
    exact ⟨fun c => ⟨fun d => ⟨fun _ => ⟨z_in (by omega) (by have := e2.mp c; have := e7.mp d; omega) (by omega), ⟨fun _ => trivial, fun _ => trivial⟩⟩, fun _ => trivial⟩, fun _ => trivial⟩, fun _ => trivial⟩
  · intro q hq
    have hq' : q = (eX σ L tx i, w) := by
      rw [hq]
      unfold f_X6_entry_206
      dsimp only
      rw [z1, ← hw, w12, w13, w14, ei, z_tn (by omega), w39]
      unfold eX
      by_cases q2 : 2 < eT L tx i
      · rw [itn (fun c => absurd (e2.mp c) (by omega)), if_pos q2]
      · rw [itp (e2.mpr (by omega)), if_neg q2]
        by_cases q7 : 7 < eT L tx (i + 1)
        · rw [itn (fun c => absurd (e7.mp c) (by omega)), if_pos q7]
        · rw [itp (e7.mpr (by omega)), if_neg q7]
          by_cases q20 : 20 < eN L tx i
          · rw [itn (fun c => absurd (e20.mp c) (by omega)), if_pos q20]
          · rw [itp (e20.mpr (by omega)), if_neg q20]
            by_cases z : σ 39 (10 * eT L tx i + eT L tx (i + 1)) = 1
            · rw [itp z, if_pos z]
            · rw [itn z, if_neg z]
    rw [hq']
    exact ⟨rfl, w14, w11, wf⟩
/-- what an entry that is well formed leaves -/
def eG (σ : Sg) (L : Nat) (tx : Nat → Int) (i : Nat) (q : Int32 × Sg) : Prop := q.1 = eX σ L tx i ∧ q.2 34 12 = zI (eT L tx i) ∧ q.2 34 13 = zI (eT L tx (i + 1)) ∧ q.2 34 14 = zI (eN L tx i) ∧ q.2 34 11 = zI ((eE L tx i + 1 : Nat) : Int) ∧ fr 34 [11, 12, 13, 14] σ q.2
theorem e64_M {σ : Sg} {L : Nat} {tx : Nat → Int} {i : Nat} {y : Int32} (h : EM σ L tx) (hL : L ≤ 60) (hT : TX L tx) (hi : i ≤ 60) (h10 : σ 34 10 = zI i) (hy : y = 0 ∨ y = 1) (hs : (y = 0) ↔ ¬ (ch L tx (i + 2) = 43 ∨ ch L tx (i + 2) = 45)) : ok_X6_entry_64 y (zI (eE L tx i)) σ ∧ (¬ eOK L tx i → f_X6_entry_64 y (zI (eE L tx i)) σ = (1, σ)) ∧ (eOK L tx i → ∀ q : Int32 × Sg, q = f_X6_entry_64 y (zI (eE L tx i)) σ → eG σ L tx i q) := by
  have k1 : zI (i : Int) + 1 = zI ((i + 1 : Nat) : Int) := zk 1
  have k3 : zI (i : Int) + 3 = zI ((i + 3 : Nat) : Int) := zk 3
  have k4 : zI (i : Int) + 4 = zI ((i + 4 : Nat) : Int) := zk 4
  have k5 : zI (i : Int) + 5 = zI ((i + 5 : Nat) : Int) := zk 5
  have be := eE_b L tx i
  have d0 := dg_M (k := i) h hL hT (by omega)
  have d1 := dg_M (k := i + 1) h hL hT (by omega)
  have d3 := dg_M (k := i + 3) h hL hT (by omega)
  have cE := ch_M (k := eE L tx i) h hL (by omega)
  have bE := ch_b hT (eE L tx i)
  have p59 : (zI (ch L tx (eE L tx i)) = 59) ↔ ch L tx (eE L tx i) = 59 := by rw [z_n]; exact z_eq (by unfold zB; omega) (by unfold zB; omega)
  have c0 := ch_M (k := i) h hL (by omega)
  have n48 : ∀ a : Int, zI a - 48 = zI (a - 48) := fun a => z_sub a 48
  obtain ⟨w1, hw1⟩ : ∃ w : Sg, w = pu σ 34 12 (zI (ch L tx i - 48)) := ⟨_, rfl⟩
  have h1 : EM w1 L tx := h.fr (by rw [hw1, pu_un (by omega)]) (by rw [hw1, pu_ne (by omega)])
  have w110 : w1 34 10 = zI i := by rw [hw1, pu_un (by omega)]; exact h10
  have c1 := ch_M (k := i + 1) h1 hL (by omega)
  obtain ⟨w2, hw2⟩ : ∃ w : Sg, w = pu w1 34 13 (zI (ch L tx (i + 1) - 48)) := ⟨_, rfl⟩
  have h2 : EM w2 L tx := h1.fr (by rw [hw2, pu_un (by omega)]) (by rw [hw2, pu_ne (by omega)])
  have w210 : w2 34 10 = zI i := by rw [hw2, pu_un (by omega)]; exact w110
  have c3 := ch_M (k := i + 3) h2 hL (by omega)
  obtain ⟨w3, hw3⟩ : ∃ w : Sg, w = pu w2 34 14 (zI (ch L tx (i + 3) - 48)) := ⟨_, rfl⟩
  have h3 : EM w3 L tx := h2.fr (by rw [hw3, pu_un (by omega)]) (by rw [hw3, pu_ne (by omega)])
  have w310 : w3 34 10 = zI i := by rw [hw3, pu_un (by omega)]; exact w210
  have w314 : w3 34 14 = zI (ch L tx (i + 3) - 48) := by rw [hw3, pu_at]
  have w313 : w3 34 13 = zI (ch L tx (i + 1) - 48) := by rw [hw3, pu_un (by omega), hw2, pu_at]
  have w312 : w3 34 12 = zI (ch L tx i - 48) := by rw [hw3, pu_un (by omega), hw2, pu_un (by omega), hw1, pu_at]
  have wf : fr 34 [11, 12, 13, 14] σ w3 := by
    rw [hw3, hw2, hw1]
    exact ((fr.pu (by decide)).tr (fr.pu (by decide))).tr (fr.pu (by decide))
  have c4 := ch_M (k := i + 4) h3 hL (by omega)
  have b3 := ch_b hT (i + 3)
  have b4 := ch_b hT (i + 4)
  have e5 : (zI (eE L tx i : Int) = zI ((i + 5 : Nat) : Int)) ↔ dg L tx (i + 4) := by
    rw [z_eq (by unfold zB; omega) (by unfold zB; omega)]
    unfold eE
    by_cases q : dg L tx (i + 4)
    · rw [itp q]; exact ⟨fun _ => q, fun _ => rfl⟩
    · rw [itn q]; exact ⟨fun c => by omega, fun c => absurd c q⟩
  have n10 : (10 : Int32) * zI (ch L tx (i + 3) - 48) + zI (ch L tx (i + 4)) - 48 = zI ((ch L tx (i + 3) - 48) * 10 + (ch L tx (i + 4) - 48)) := by
    have m : (10 : Int32) * zI (ch L tx (i + 3) - 48) = zI (10 * (ch L tx (i + 3) - 48)) := z_mul 10 _
    rw [m, z_add, n48]
    exact congrArg zI (by omega)
  have R := fun (ho : eOK L tx i) => e206_M (e := eE L tx i) h3 ho (by omega) (by rw [w312, (eT_b ho.1).1]) (by rw [w313, (eT_b ho.2.1).1])
  have x39 : eX w3 L tx i = eX σ L tx i := by
    unfold eX
    rw [wf.1 39 (by omega)]
  have G : ∀ (ho : eOK L tx i) (q : Int32 × Sg), q = f_X6_entry_206 (zI (eE L tx i)) (zI (eN L tx i)) w3 → eG σ L tx i q := fun ho q hq => by
    obtain ⟨r1, r2, r3, r4⟩ := (R ho).2 q hq
    exact ⟨by rw [r1, x39], by rw [r4.2 12 (by decide), w312, (eT_b ho.1).1], by rw [r4.2 13 (by decide), w313, (eT_b ho.2.1).1], r2, r3, wf.tr (r4.up (by decide))⟩
  constructor
  · unfold ok_X6_entry_64
    dsimp only
    rw [h10, k1, k3, c0.2, n48, ← hw1, w110, k1, c1.2, n48, ← hw2, w210, k3, c3.2, n48, ← hw3, w310, k4, k5, w314, c4.2, n10, cE.2]
    refine ⟨d0.1, ⟨fun _ => trivial, fun q0 => ⟨d1.1, ⟨fun _ => trivial, fun q1 => ⟨fun _ => trivial, fun qy => ⟨d3.1, ⟨fun _ => trivial, fun q3 => ⟨cE.1, ⟨fun qe => ⟨c0.1, c1.1, c3.1, ?_⟩, fun _ => trivial⟩⟩⟩⟩⟩⟩⟩⟩⟩
    have ho : eOK L tx i := ⟨Classical.byContradiction fun c => q0 (d0.2.mpr c), Classical.byContradiction fun c => q1 (d1.2.mpr c), Classical.byContradiction fun c => qy (hs.mpr c), Classical.byContradiction fun c => q3 (d3.2.mpr c), p59.mp qe⟩
    have r := (R ho).1
    unfold eN at r
    refine ⟨fun c => ⟨c4.1, ?_⟩, fun c => ?_⟩
    · rw [itp (e5.mp c)] at r
      exact r
    · rw [itn (fun d => c (e5.mpr d))] at r
      exact r
  · constructor
    · intro hn
      unfold f_X6_entry_64
      rw [h10, k1, k3, cE.2]
      by_cases q0 : dg L tx i
      · rw [itn (fun c => (d0.2.mp c) q0)]
        by_cases q1 : dg L tx (i + 1)
        · rw [itn (fun c => (d1.2.mp c) q1)]
          by_cases qy : y = 0
          · rw [itp qy]
          · rw [itn qy]
            by_cases q3 : dg L tx (i + 3)
            · rw [itn (fun c => (d3.2.mp c) q3)]
              have qe : ¬ ch L tx (eE L tx i) = 59 := fun c => hn ⟨q0, q1, Classical.byContradiction fun d => qy (hs.mpr d), q3, c⟩
              rw [itn (fun c => qe (p59.mp c))]
            · rw [itp (d3.2.mpr q3)]
        · rw [itp (d1.2.mpr q1)]
      · rw [itp (d0.2.mpr q0)]
    · intro ho q hq
      refine G ho q ?_
      rw [hq]
      unfold f_X6_entry_64
      dsimp only
      rw [h10, k1, k3, c0.2, n48, ← hw1, w110, k1, c1.2, n48, ← hw2, w210, k3, c3.2, n48, ← hw3, w310, k4, k5, w314, c4.2, n10, cE.2, itn (fun c => (d0.2.mp c) ho.1), itn (fun c => (d1.2.mp c) ho.2.1), itn (fun c => (hs.mp c) ho.2.2.1), itn (fun c => (d3.2.mp c) ho.2.2.2.1), itp (p59.mpr ho.2.2.2.2)]
      unfold eN
      by_cases q4 : dg L tx (i + 4)
      · rw [itp (e5.mpr q4), itp q4]
      · rw [itn (fun c => q4 (e5.mp c)), itn q4]
theorem en_M {σ : Sg} {L : Nat} {tx : Nat → Int} {i : Nat} (h : EM σ L tx) (hL : L ≤ 60) (hT : TX L tx) (hi : i ≤ 60) (h10 : σ 34 10 = zI i) : ok_X6_entry σ ∧ (¬ eOK L tx i → f_X6_entry σ = (1, σ)) ∧ (eOK L tx i → ∀ q : Int32 × Sg, q = f_X6_entry σ → eG σ L tx i q) := by
  have k2 : zI (i : Int) + 2 = zI ((i + 2 : Nat) : Int) := zk 2
  have k4 : zI (i : Int) + 4 = zI ((i + 4 : Nat) : Int) := zk 4
  have k5 : zI (i : Int) + 5 = zI ((i + 5 : Nat) : Int) := zk 5
  have c2 := ch_M (k := i + 2) h hL (by omega)
  have d4 := dg_M (k := i + 4) h hL hT (by omega)
  have b2 := ch_b hT (i + 2)
  have p43 : (zI (ch L tx (i + 2)) = 43) ↔ ch L tx (i + 2) = 43 := by rw [z_n]; exact z_eq (by unfold zB; omega) (by unfold zB; omega)
  have p45 : (zI (ch L tx (i + 2)) = 45) ↔ ch L tx (i + 2) = 45 := by rw [z_n]; exact z_eq (by unfold zB; omega) (by unfold zB; omega)
  have S : ∀ y : Int32, (y = 0 ∨ y = 1) → ((y = 0) ↔ ¬ (ch L tx (i + 2) = 43 ∨ ch L tx (i + 2) = 45)) → ok_X6_entry_35 y σ ∧ (¬ eOK L tx i → f_X6_entry_35 y σ = (1, σ)) ∧ (eOK L tx i → ∀ q : Int32 × Sg, q = f_X6_entry_35 y σ → eG σ L tx i q) := fun y hy hs => by
    have r := e64_M (y := y) h hL hT hi h10 hy hs
    unfold ok_X6_entry_35 f_X6_entry_35
    rw [h10, k4, k5]
    by_cases q4 : dg L tx (i + 4)
    · have ee : eE L tx i = i + 5 := by unfold eE; rw [itp q4]
      rw [ee] at r
      refine ⟨⟨d4.1, ⟨fun c => absurd q4 (d4.2.mp c), fun _ => r.1⟩⟩, ?_⟩
      rw [itn (fun c => (d4.2.mp c) q4)]
      exact r.2
    · have ee : eE L tx i = i + 4 := by unfold eE; rw [itn q4]
      rw [ee] at r
      refine ⟨⟨d4.1, ⟨fun _ => r.1, fun c => absurd (d4.2.mpr q4) c⟩⟩, ?_⟩
      rw [itp (d4.2.mpr q4)]
      exact r.2
  have one : ((1 : Int32) = 0) ↔ False := ⟨fun c => absurd c (by decide), fun c => c.elim⟩
  unfold ok_X6_entry f_X6_entry f_X6_entry_30
  rw [h10, k2, c2.2]
  by_cases a : ch L tx (i + 2) = 43
  · have r := S 1 (Or.inr rfl) ⟨fun c => (one.mp c).elim, fun c => absurd (Or.inl a) c⟩
    refine ⟨⟨c2.1, ⟨fun _ => r.1, fun c => absurd (p43.mpr a) c⟩⟩, ?_⟩
    rw [itp (p43.mpr a)]
    exact r.2
  · by_cases b : ch L tx (i + 2) = 45
    · have r := S 1 (Or.inr rfl) ⟨fun c => (one.mp c).elim, fun c => absurd (Or.inr b) c⟩
      refine ⟨⟨c2.1, ⟨fun c => absurd (p43.mp c) a, fun _ => ⟨c2.1, ⟨fun _ => r.1, fun c => absurd (p45.mpr b) c⟩⟩⟩⟩, ?_⟩
      rw [itn (fun c => a (p43.mp c)), itp (p45.mpr b)]
      exact r.2
    · have r := S 0 (Or.inl rfl) ⟨fun _ c => c.elim a b, fun _ => rfl⟩
      refine ⟨⟨c2.1, ⟨fun c => absurd (p43.mp c) a, fun _ => ⟨c2.1, ⟨fun c => absurd (p45.mp c) b, fun _ => r.1⟩⟩⟩⟩, ?_⟩
      rw [itn (fun c => a (p43.mp c)), itn (fun c => b (p45.mp c))]
      exact r.2
