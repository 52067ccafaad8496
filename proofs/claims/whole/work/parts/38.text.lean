set_option linter.all false
/-! the text and its entries -/
def ch (L : Nat) (tx : Nat → Int) (k : Nat) : Int := if k < L then tx k else 0
def EC (σ : Sg) (L : Nat) (tx : Nat → Int) : Prop := σ 30 1 = zI L ∧ ∀ k, k < L → σ 31 k = zI (tx k)
def EM (σ : Sg) (L : Nat) (tx : Nat → Int) : Prop := σ 34 4 = zI L ∧ ∀ k, k < L → σ 37 k = zI (tx k)
theorem ch_b {L : Nat} {tx : Nat → Int} (hT : TX L tx) (k : Nat) : 0 ≤ ch L tx k ∧ ch L tx k ≤ 126 := by
  unfold ch
  split
  · rename_i h
    have := hT k h
    omega
  · omega
theorem ch_lt {L : Nat} {tx : Nat → Int} {k : Nat} (h : 0 < ch L tx k) : k < L := by
  unfold ch at h
  split at h
  · assumption
  · omega
theorem ch_C {σ : Sg} {L : Nat} {tx : Nat → Int} {k : Nat} (h : EC σ L tx) (hL : L ≤ 60) (hk : k ≤ 1000) : ok_X0_characterAt (zI k) σ ∧ f_X0_characterAt (zI k) σ = zI (ch L tx k) := by
  have e : (σ 30 1 ≤ zI (k : Int)) ↔ L ≤ k := by
    rw [h.1, z_le (by unfold zB; omega) (by unfold zB; omega)]
    omega
  refine ⟨⟨fun _ => trivial, fun _ => ⟨at_ok (by decide), trivial⟩⟩, ?_⟩
  unfold f_X0_characterAt ch
  by_cases q : L ≤ k
  · rw [itp (e.mpr q), if_neg (by omega)]; rfl
  · rw [itn (fun c => q (e.mp c)), if_pos (by omega), at_in (show k < o_len 31 by show _ < 60; omega) (by decide)]
    exact h.2 k (by omega)
theorem ch_M {σ : Sg} {L : Nat} {tx : Nat → Int} {k : Nat} (h : EM σ L tx) (hL : L ≤ 60) (hk : k ≤ 1000) : ok_X6_letterAt (zI k) σ ∧ f_X6_letterAt (zI k) σ = zI (ch L tx k) := by
  have e : (σ 34 4 ≤ zI (k : Int)) ↔ L ≤ k := by
    rw [h.1, z_le (by unfold zB; omega) (by unfold zB; omega)]
    omega
  refine ⟨⟨fun _ => trivial, fun c => ⟨z_in (by omega) (by have c' := Nat.lt_of_not_le (fun d => c (e.mpr d)); omega) (by omega), trivial⟩⟩, ?_⟩
  unfold f_X6_letterAt ch
  by_cases q : L ≤ k
  · rw [itp (e.mpr q), if_neg (by omega)]; rfl
  · rw [itn (fun c => q (e.mp c)), if_pos (by omega), z_tn (by omega)]
    exact h.2 k (by omega)
def dg (L : Nat) (tx : Nat → Int) (k : Nat) : Prop := 48 ≤ ch L tx k ∧ ch L tx k ≤ 57
theorem dg_C {σ : Sg} {L : Nat} {tx : Nat → Int} {k : Nat} (h : EC σ L tx) (hL : L ≤ 60) (hT : TX L tx) (hk : k ≤ 1000) : ok_X0_isDigit (zI k) σ ∧ ((f_X0_isDigit (zI k) σ = 0) ↔ ¬ dg L tx k) := by
  have c := ch_C h hL hk
  have b := ch_b hT k
  have e : (f_X5_isOutside (zI (ch L tx k)) 48 57 σ = 0) ↔ (48 ≤ ch L tx k ∧ ch L tx k ≤ 57) := out_iff (b := 48) (c := 57) (by unfold zB; omega) (by unfold zB; omega) (by unfold zB; omega)
  refine ⟨⟨c.1, out_ok, ⟨fun _ => trivial, fun _ => trivial⟩⟩, ?_⟩
  unfold f_X0_isDigit
  rw [c.2]
  by_cases q : 48 ≤ ch L tx k ∧ ch L tx k ≤ 57
  · rw [itp (e.mpr q)]
    exact ⟨fun d => absurd d (by decide), fun d => absurd q d⟩
  · rw [itn (fun d => q (e.mp d))]
    exact ⟨fun _ => q, fun _ => rfl⟩
theorem dg_M {σ : Sg} {L : Nat} {tx : Nat → Int} {k : Nat} (h : EM σ L tx) (hL : L ≤ 60) (hT : TX L tx) (hk : k ≤ 1000) : ok_X6_isDigit (zI k) σ ∧ ((f_X6_isDigit (zI k) σ = 0) ↔ ¬ dg L tx k) := by
  have c := ch_M h hL hk
  have b := ch_b hT k
  refine ⟨⟨c.1, in_ok, (z_nb in_b).1, trivial⟩, ?_⟩
  unfold f_X6_isDigit
  rw [c.2]
  exact in_iff (b := 48) (c := 57) (by unfold zB; omega) (by unfold zB; omega) (by unfold zB; omega)
theorem di_C {σ : Sg} {L : Nat} {tx : Nat → Int} {k : Nat} (h : EC σ L tx) (hL : L ≤ 60) (hk : k ≤ 1000) : ok_X0_digitAt (zI k) σ ∧ f_X0_digitAt (zI k) σ = zI (ch L tx k - 48) := by
  have c := ch_C h hL hk
  refine ⟨⟨c.1, trivial⟩, ?_⟩
  unfold f_X0_digitAt
  rw [c.2]
  exact z_sub _ 48
noncomputable def eE (L : Nat) (tx : Nat → Int) (i : Nat) : Nat := o_ite (dg L tx (i + 4)) (i + 5) (i + 4)
theorem eE_b (L : Nat) (tx : Nat → Int) (i : Nat) : eE L tx i = i + 4 ∨ eE L tx i = i + 5 := by
  unfold eE
  by_cases q : dg L tx (i + 4)
  · rw [itp q]; omega
  · rw [itn q]; omega
def eOK (L : Nat) (tx : Nat → Int) (i : Nat) : Prop := dg L tx i ∧ dg L tx (i + 1) ∧ (ch L tx (i + 2) = 43 ∨ ch L tx (i + 2) = 45) ∧ dg L tx (i + 3) ∧ ch L tx (eE L tx i) = 59
noncomputable def eN (L : Nat) (tx : Nat → Int) (i : Nat) : Int := o_ite (dg L tx (i + 4)) ((ch L tx (i + 3) - 48) * 10 + (ch L tx (i + 4) - 48)) (ch L tx (i + 3) - 48)
theorem eN_b {L : Nat} {tx : Nat → Int} {i : Nat} (h : eOK L tx i) : 0 ≤ eN L tx i ∧ eN L tx i ≤ 99 := by
  have h3 := h.2.2.2.1
  unfold dg at h3
  unfold eN
  by_cases q : dg L tx (i + 4)
  · rw [itp q]
    unfold dg at q
    omega
  · rw [itn q]; omega
theorem zk {i : Nat} (j : Nat) : zI (i : Int) + zI (j : Int) = zI ((i + j : Nat) : Int) := z_add i j
theorem eL_C {σ : Sg} {L : Nat} {tx : Nat → Int} {i : Nat} (h : EC σ L tx) (hL : L ≤ 60) (hT : TX L tx) (hi : i ≤ 500) : ok_X0_entryLength (zI i) σ ∧ (¬ eOK L tx i → f_X0_entryLength (zI i) σ = 0) ∧ (eOK L tx i → f_X0_entryLength (zI i) σ = zI ((eE L tx i : Int) + 1 - i)) := by
  have k1 : zI (i : Int) + 1 = zI ((i + 1 : Nat) : Int) := zk 1
  have k2 : zI (i : Int) + 2 = zI ((i + 2 : Nat) : Int) := zk 2
  have k3 : zI (i : Int) + 3 = zI ((i + 3 : Nat) : Int) := zk 3
  have k4 : zI (i : Int) + 4 = zI ((i + 4 : Nat) : Int) := zk 4
  have k5 : zI (i : Int) + 5 = zI ((i + 5 : Nat) : Int) := zk 5
  have c2 := ch_C (k := i + 2) h hL (by omega)
  have d0 := dg_C (k := i) h hL hT (by omega)
  have d1 := dg_C (k := i + 1) h hL hT (by omega)
  have d3 := dg_C (k := i + 3) h hL hT (by omega)
  have d4 := dg_C (k := i + 4) h hL hT (by omega)
  have b2 := ch_b hT (i + 2)
  have p43 : (zI (ch L tx (i + 2)) = 43) ↔ ch L tx (i + 2) = 43 := by rw [z_n]; exact z_eq (by unfold zB; omega) (by unfold zB; omega)
  have p45 : (zI (ch L tx (i + 2)) = 45) ↔ ch L tx (i + 2) = 45 := by rw [z_n]; exact z_eq (by unfold zB; omega) (by unfold zB; omega)
  have S : ∀ e : Nat, e ≤ 600 → ok_X0_entryLength_69 (zI i) (zI e) σ ∧ (ch L tx e = 59 → f_X0_entryLength_69 (zI i) (zI e) σ = zI ((e : Int) + 1 - i)) ∧ (¬ ch L tx e = 59 → f_X0_entryLength_69 (zI i) (zI e) σ = 0) := fun e he => by
    have c := ch_C (k := e) h hL (by omega)
    have b := ch_b hT e
    have p : (zI (ch L tx e) = 59) ↔ ch L tx e = 59 := by rw [z_n]; exact z_eq (by unfold zB; omega) (by unfold zB; omega)
    have z1 : zI (e : Int) + 1 - zI (i : Int) = zI ((e : Int) + 1 - i) := by
      have : zI (e : Int) + 1 = zI ((e : Int) + 1) := z_add e 1
      rw [this, z_sub]
    refine ⟨⟨c.1, ⟨fun _ => trivial, fun _ => trivial⟩⟩, fun q => ?_, fun q => ?_⟩
    · unfold f_X0_entryLength_69
      rw [c.2, itp (p.mpr q), z1]
    · unfold f_X0_entryLength_69
      rw [c.2, itn (fun d => q (p.mp d))]
  have s4 := S (i + 4) (by omega)
  have s5 := S (i + 5) (by omega)
  have T : ok_X0_entryLength_38 (zI i) σ ∧ (dg L tx (i + 3) ∧ ch L tx (eE L tx i) = 59 → f_X0_entryLength_38 (zI i) σ = zI ((eE L tx i : Int) + 1 - i)) ∧ (¬ (dg L tx (i + 3) ∧ ch L tx (eE L tx i) = 59) → f_X0_entryLength_38 (zI i) σ = 0) := by
    unfold ok_X0_entryLength_38 f_X0_entryLength_38
    rw [k3, k4, k5]
    refine ⟨⟨d3.1, ⟨fun _ => trivial, fun _ => ⟨d4.1, ⟨fun _ => s4.1, fun _ => s5.1⟩⟩⟩⟩, fun q => ?_, fun q => ?_⟩
    · rw [itn (fun c => (d3.2.mp c) q.1)]
      have q2 := q.2
      unfold eE at q2 ⊢
      by_cases q4 : dg L tx (i + 4)
      · rw [itn (fun c => (d4.2.mp c) q4)]
        rw [itp q4] at q2 ⊢
        exact s5.2.1 q2
      · rw [itp (d4.2.mpr q4)]
        rw [itn q4] at q2 ⊢
        exact s4.2.1 q2
    · by_cases q3 : dg L tx (i + 3)
      · rw [itn (fun c => (d3.2.mp c) q3)]
        have q2 : ¬ ch L tx (eE L tx i) = 59 := fun c => q ⟨q3, c⟩
        unfold eE at q2
        by_cases q4 : dg L tx (i + 4)
        · rw [itn (fun c => (d4.2.mp c) q4)]
          rw [itp q4] at q2
          exact s5.2.2 q2
        · rw [itp (d4.2.mpr q4)]
          rw [itn q4] at q2
          exact s4.2.2 q2
      · rw [itp (d3.2.mpr q3)]
  unfold ok_X0_entryLength f_X0_entryLength
  rw [k1, k2, c2.2]
  refine ⟨⟨c2.1, d0.1, ⟨fun _ => trivial, fun _ => ⟨d1.1, ⟨fun _ => trivial, fun _ => ⟨fun _ => T.1, fun _ => ⟨fun _ => T.1, fun _ => trivial⟩⟩⟩⟩⟩⟩, fun q => ?_, fun q => ?_⟩
  · by_cases q0 : dg L tx i
    · rw [itn (fun c => (d0.2.mp c) q0)]
      by_cases q1 : dg L tx (i + 1)
      · rw [itn (fun c => (d1.2.mp c) q1)]
        by_cases a : ch L tx (i + 2) = 43
        · rw [itp (p43.mpr a)]
          exact T.2.2 (fun c => q ⟨q0, q1, Or.inl a, c.1, c.2⟩)
        · rw [itn (fun c => a (p43.mp c))]
          by_cases b : ch L tx (i + 2) = 45
          · rw [itp (p45.mpr b)]
            exact T.2.2 (fun c => q ⟨q0, q1, Or.inr b, c.1, c.2⟩)
          · rw [itn (fun c => b (p45.mp c))]
      · rw [itp (d1.2.mpr q1)]
    · rw [itp (d0.2.mpr q0)]
  · obtain ⟨q0, q1, q2, q3, q4⟩ := q
    rw [itn (fun c => (d0.2.mp c) q0), itn (fun c => (d1.2.mp c) q1)]
    by_cases a : ch L tx (i + 2) = 43
    · rw [itp (p43.mpr a)]
      exact T.2.1 ⟨q3, q4⟩
    · rw [itn (fun c => a (p43.mp c)), itp (p45.mpr (by omega))]
      exact T.2.1 ⟨q3, q4⟩
theorem am_C {σ : Sg} {L : Nat} {tx : Nat → Int} {i : Nat} (h : EC σ L tx) (hL : L ≤ 60) (hT : TX L tx) (hi : i ≤ 500) : ok_X0_amount (zI i) σ ∧ f_X0_amount (zI i) σ = zI (eN L tx i) := by
  have k3 : zI (i : Int) + 3 = zI ((i + 3 : Nat) : Int) := zk 3
  have k4 : zI (i : Int) + 4 = zI ((i + 4 : Nat) : Int) := zk 4
  have d4 := dg_C (k := i + 4) h hL hT (by omega)
  have i3 := di_C (k := i + 3) h hL (by omega)
  have i4 := di_C (k := i + 4) h hL (by omega)
  unfold ok_X0_amount f_X0_amount eN
  rw [k3, k4]
  refine ⟨⟨i3.1, d4.1, ⟨fun _ => trivial, fun _ => ⟨i4.1, trivial⟩⟩⟩, ?_⟩
  by_cases q : dg L tx (i + 4)
  · rw [itn (fun c => (d4.2.mp c) q), itp q, i3.2, i4.2]
    have e : zI (ch L tx (i + 3) - 48) * 10 = zI ((ch L tx (i + 3) - 48) * 10) := z_mul _ 10
    rw [e, z_add]
  · rw [itp (d4.2.mpr q), itn q, i3.2]
/-- the cell of an entry -/
noncomputable def eT (L : Nat) (tx : Nat → Int) (i : Nat) : Nat := (ch L tx i - 48).toNat
theorem eT_b {L : Nat} {tx : Nat → Int} {i : Nat} (h : dg L tx i) : (eT L tx i : Int) = ch L tx i - 48 ∧ eT L tx i ≤ 9 := by
  unfold dg at h
  unfold eT
  omega
theorem ec_C {σ : Sg} {L : Nat} {tx : Nat → Int} {i : Nat} (h : EC σ L tx) (hL : L ≤ 60) (hi : i ≤ 500) (h0 : dg L tx i) (h1 : dg L tx (i + 1)) : ok_X0_entryCell (zI i) σ ∧ f_X0_entryCell (zI i) σ = zI ((8 * eT L tx i + eT L tx (i + 1) : Nat) : Int) := by
  have k1 : zI (i : Int) + 1 = zI ((i + 1 : Nat) : Int) := zk 1
  have i0 := di_C (k := i) h hL (by omega)
  have i1 := di_C (k := i + 1) h hL (by omega)
  unfold ok_X0_entryCell f_X0_entryCell
  rw [k1, i0.2, i1.2, ← (eT_b h0).1, ← (eT_b h1).1]
  dsimp only
  exact ⟨⟨i0.1, i1.1, trivial, trivial⟩, cell_C⟩
theorem ef_C {σ : Sg} {L : Nat} {tx : Nat → Int} {i : Nat} (h : EC σ L tx) (hL : L ≤ 60) (hT : TX L tx) (hi : i ≤ 60) : ok_X0_entryFault (zI i) σ ∧ (¬ eOK L tx i → f_X0_entryFault (zI i) σ = 1) ∧ (eOK L tx i → f_X0_entryFault (zI i) σ = (if 2 < eT L tx i then 2 else if 7 < eT L tx (i + 1) then 3 else if 20 < eN L tx i then 4 else if σ 33 (8 * eT L tx i + eT L tx (i + 1)) = 0 then 0 else 5)) := by
  have l := eL_C h hL hT (show i ≤ 500 by omega)
  have be := eE_b L tx i
  have le : eOK L tx i → ¬ (f_X0_entryLength (zI i) σ = 0) := fun q => by
    rw [l.2.2 q, z_0, z_eq (by unfold zB; omega) (by unfold zB; omega)]
    omega
  have ho : f_X0_entryLength (zI i) σ = 0 ∨ eOK L tx i := by
    by_cases q : eOK L tx i
    · exact Or.inr q
    · exact Or.inl (l.2.1 q)
  have k1 : zI (i : Int) + 1 = zI ((i + 1 : Nat) : Int) := zk 1
  have i0 := di_C (k := i) h hL (by omega)
  have i1 := di_C (k := i + 1) h hL (by omega)
  have am := am_C h hL hT (show i ≤ 500 by omega)
  have bn := eN_b (L := L) (tx := tx) (i := i)
  have b0 := ch_b hT i
  have b1 := ch_b hT (i + 1)
  have tr := fun s : Sg => tr_C (σ := s) (a := ch L tx i - 48) (by unfold zB; omega)
  have ce := fun s : Sg => ce_C (σ := s) (a := ch L tx i - 48) (b := ch L tx (i + 1) - 48) (by unfold zB; omega) (by unfold zB; omega)
  refine ⟨⟨l.1, ⟨fun _ => trivial, fun c => ?_⟩⟩, fun q => ?_, fun q => ?_⟩
  · have q : eOK L tx i := ho.resolve_left c
    have cc := ec_C h hL (show i ≤ 500 by omega) q.1 q.2.1
    rw [k1]
    exact ⟨i0.1, tr_okC, ⟨fun _ => trivial, fun _ => ⟨i0.1, i1.1, ce_okC, ⟨fun _ => trivial, fun _ => ⟨am.1, ⟨fun _ => ⟨cc.1, at_ok (by decide), ⟨fun _ => trivial, fun _ => trivial⟩⟩, fun _ => trivial⟩⟩⟩⟩⟩⟩
  · unfold f_X0_entryFault
    rw [itp (l.2.1 q)]
  · have cc := ec_C h hL (show i ≤ 500 by omega) q.1 q.2.1
    have t0 := eT_b q.1
    have t1 := eT_b q.2.1
    have bn := bn q
    have e20 : (zI (eN L tx i) ≤ 20) ↔ eN L tx i ≤ 20 := by rw [z_n]; exact z_le (by unfold zB; omega) (by unfold zB; omega)
    unfold f_X0_entryFault
    rw [itn (le q), k1, i0.2, i1.2, am.2, cc.2]
    dsimp only
    by_cases q2 : 2 < eT L tx i
    · rw [itp ((tr _).mpr (by omega)), if_pos q2]
    · rw [itn (fun c => (tr _).mp c (by omega)), if_neg q2]
      by_cases q7 : 7 < eT L tx (i + 1)
      · rw [itp ((ce _).mpr (by omega)), if_pos q7]
      · rw [itn (fun c => (ce _).mp c (by omega)), if_neg q7]
        by_cases q20 : 20 < eN L tx i
        · rw [itn (fun c => absurd (e20.mp c) (by omega)), if_pos q20]
        · rw [itp (e20.mpr (by omega)), if_neg q20, at_in (show 8 * eT L tx i + eT L tx (i + 1) < o_len 33 by show _ < 24; omega) (by decide)]
          show o_ite (σ 33 (8 * eT L tx i + eT L tx (i + 1)) = 0) 0 5 = _
          by_cases z : σ 33 (8 * eT L tx i + eT L tx (i + 1)) = 0
          · rw [itp z, if_pos z]
          · rw [itn z, if_neg z]
