set_option linter.all false
noncomputable def f_X3_angle  (σ : Sg) : Int32 :=
  (f_X5_remainder (σ 1 0) 4080 σ)
def ok_X3_angle  (σ : Sg) : Prop :=
  (ok_X5_remainder (σ 1 0) 4080 σ) ∧ (True)
set_option maxHeartbeats 4000000 in
set_option maxRecDepth 100000 in
theorem c_X3_angle (l : Launch) (G : Gt)   {σ : Sg} (hok : ok_X3_angle  σ) : o_Ci l G yX3_angle cX3_angle 1 (some .int) 1 22 [.ref (gAd G 1)] σ (fun r σ' => r = f_X3_angle  σ ∧ σ' = σ) := by
  refine o_Ci.of (by decide +kernel) (Nat.le_of_ble_eq_true rfl) ?_
  intro p e s m args below meth c hc hr
  have hq : ∀ q : Int32, q = f_X3_angle  σ → (fun r σ' => r = f_X3_angle  σ ∧ σ' = σ) q σ := fun q h => ⟨h, rfl⟩
  refine r_aload_n (pc := 0) hc 0 dX3_angle_0 rfl rfl ?_
  refine r_geti (pc := 1) hc 0 kk3 (o_lt hc (by decide)) rfl (by decide) kF_X3_9 rfl rfl dX3_angle_1 ?_
  refine r_sipush (pc := 4) (v := 4080) hc dX3_angle_4 (by decide) ?_
  obtain ⟨hs1, hok⟩ := hok
  refine r_callSN_i (pc := 7) (as := [.int _, .int _]) hc (c_X5_remainder l _ hs1) mS_X5_remainder kN_X3_51 ⟨Nat.le_of_ble_eq_true rfl, Nat.le_of_ble_eq_true rfl⟩ ⟨Nat.le_of_ble_eq_true rfl, Nat.le_of_ble_eq_true rfl⟩ rfl rfl (Nat.le_of_ble_eq_true rfl) dX3_angle_7 (fun r σ' h => ?_)
  obtain ⟨rfl, rfl⟩ := h
  exact r_iret hc hr rfl dX3_angle_10 (hq _ rfl)
noncomputable def f_X3_readingAt (p1 : Int32) (p2 : Int32) (σ : Sg) : Int32 :=
  let r4 := f_X5_at 3 (f_X5_cell p1 (f_X5_sectorOf p2 σ) σ) σ
  let r8 := f_X5_remainder ((p2 + r4) + (f_X5_at 4 p1 σ)) (f_X5_at 41 p1 σ) σ
  r8
def ok_X3_readingAt (p1 : Int32) (p2 : Int32) (σ : Sg) : Prop :=
  (ok_X5_sectorOf p2 σ) ∧ ((ok_X5_cell p1 (f_X5_sectorOf p2 σ) σ) ∧ ((ok_X5_at 3 (f_X5_cell p1 (f_X5_sectorOf p2 σ) σ) σ) ∧ (let r4 := f_X5_at 3 (f_X5_cell p1 (f_X5_sectorOf p2 σ) σ) σ
  (ok_X5_at 4 p1 σ) ∧ ((ok_X5_at 41 p1 σ) ∧ ((ok_X5_remainder ((p2 + r4) + (f_X5_at 4 p1 σ)) (f_X5_at 41 p1 σ) σ) ∧ (let r8 := f_X5_remainder ((p2 + r4) + (f_X5_at 4 p1 σ)) (f_X5_at 41 p1 σ) σ
  True))))))
set_option maxHeartbeats 4000000 in
set_option maxRecDepth 100000 in
theorem c_X3_readingAt (l : Launch) (G : Gt) {p1 : Int32} {p2 : Int32}  {σ : Sg} (hok : ok_X3_readingAt p1 p2 σ) : o_Ci l G yX3_readingAt cX3_readingAt 4 (some .int) 1 22 [.ref (gAd G 1), .int p1, .int p2] σ (fun r σ' => r = f_X3_readingAt p1 p2 σ ∧ σ' = σ) := by
  refine o_Ci.of (by decide +kernel) (Nat.le_of_ble_eq_true rfl) ?_
  intro p e s m args below meth c hc hr
  have hq : ∀ q : Int32, q = f_X3_readingAt p1 p2 σ → (fun r σ' => r = f_X3_readingAt p1 p2 σ ∧ σ' = σ) q σ := fun q h => ⟨h, rfl⟩
  refine r_aload_n (pc := 0) hc 0 dX3_readingAt_0 rfl rfl ?_
  refine r_getr (pc := 1) (j := 3) hc 8 kk3 (o_lt hc (by decide)) rfl (by decide) kF_X3_38 rfl rfl dX3_readingAt_1 ?_
  refine r_iload_n (pc := 4) hc 1 dX3_readingAt_4 rfl rfl ?_
  refine r_iload_n (pc := 5) hc 2 dX3_readingAt_5 rfl rfl ?_
  obtain ⟨hs1, hok⟩ := hok
  refine r_callSN_i (pc := 6) (as := [.int _]) hc (c_X5_sectorOf l _ hs1) mS_X5_sectorOf kN_X3_63 ⟨Nat.le_of_ble_eq_true rfl, Nat.le_of_ble_eq_true rfl⟩ ⟨Nat.le_of_ble_eq_true rfl, Nat.le_of_ble_eq_true rfl⟩ rfl rfl (Nat.le_of_ble_eq_true rfl) dX3_readingAt_6 (fun r σ' h => ?_)
  obtain ⟨rfl, rfl⟩ := h
  obtain ⟨hs2, hok⟩ := hok
  refine r_callSN_i (pc := 9) (as := [.int _, .int _]) hc (c_X5_cell l _ hs2) mS_X5_cell kN_X3_67 ⟨Nat.le_of_ble_eq_true rfl, Nat.le_of_ble_eq_true rfl⟩ ⟨Nat.le_of_ble_eq_true rfl, Nat.le_of_ble_eq_true rfl⟩ rfl rfl (Nat.le_of_ble_eq_true rfl) dX3_readingAt_9 (fun r σ' h => ?_)
  obtain ⟨rfl, rfl⟩ := h
  obtain ⟨hs3, hok⟩ := hok
  refine r_callSN_i (pc := 12) (as := [.ref (gAd G _), .int _]) hc (c_X5_at l _ (Or.inl ⟨by decide, rfl⟩) hs3) mS_X5_at kN_X3_59 ⟨Nat.le_of_ble_eq_true rfl, Nat.le_of_ble_eq_true rfl⟩ ⟨Nat.le_of_ble_eq_true rfl, Nat.le_of_ble_eq_true rfl⟩ rfl rfl (Nat.le_of_ble_eq_true rfl) dX3_readingAt_12 (fun r σ' h => ?_)
  obtain ⟨rfl, rfl⟩ := h
  refine r_istore_n (pc := 15) (lv' := [(3, _), (0, _), (1, _), (2, _)]) hc dX3_readingAt_15 rfl (by decide) rfl ?_
  refine r_iload_n (pc := 16) hc 3 dX3_readingAt_16 rfl rfl ?_
  refine r_iload_n (pc := 17) hc 0 dX3_readingAt_17 rfl rfl ?_
  refine r_iadd (pc := 18) hc dX3_readingAt_18 ?_
  refine r_aload_n (pc := 19) hc 1 dX3_readingAt_19 rfl rfl ?_
  refine r_getr (pc := 20) (j := 4) hc 9 kk3 (o_lt hc (by decide)) rfl (by decide) kF_X3_41 rfl rfl dX3_readingAt_20 ?_
  refine r_iload_n (pc := 23) hc 2 dX3_readingAt_23 rfl rfl ?_
  obtain ⟨hs5, hok⟩ := hok
  refine r_callSN_i (pc := 24) (as := [.ref (gAd G _), .int _]) hc (c_X5_at l _ (Or.inl ⟨by decide, rfl⟩) hs5) mS_X5_at kN_X3_59 ⟨Nat.le_of_ble_eq_true rfl, Nat.le_of_ble_eq_true rfl⟩ ⟨Nat.le_of_ble_eq_true rfl, Nat.le_of_ble_eq_true rfl⟩ rfl rfl (Nat.le_of_ble_eq_true rfl) dX3_readingAt_24 (fun r σ' h => ?_)
  obtain ⟨rfl, rfl⟩ := h
  refine r_iadd (pc := 27) hc dX3_readingAt_27 ?_
  refine r_getsN (pc := 28) hc 41 (by decide) (by decide) rfl kN_X3_70 dX3_readingAt_28 ?_
  refine r_iload_n (pc := 31) hc 2 dX3_readingAt_31 rfl rfl ?_
  obtain ⟨hs6, hok⟩ := hok
  refine r_callSN_i (pc := 32) (as := [.ref (gAd G _), .int _]) hc (c_X5_at l _ (Or.inr ⟨by decide, by decide⟩) hs6) mS_X5_at kN_X3_59 ⟨Nat.le_of_ble_eq_true rfl, Nat.le_of_ble_eq_true rfl⟩ ⟨Nat.le_of_ble_eq_true rfl, Nat.le_of_ble_eq_true rfl⟩ rfl rfl (Nat.le_of_ble_eq_true rfl) dX3_readingAt_32 (fun r σ' h => ?_)
  obtain ⟨rfl, rfl⟩ := h
  obtain ⟨hs7, hok⟩ := hok
  refine r_callSN_i (pc := 35) (as := [.int _, .int _]) hc (c_X5_remainder l _ hs7) mS_X5_remainder kN_X3_51 ⟨Nat.le_of_ble_eq_true rfl, Nat.le_of_ble_eq_true rfl⟩ ⟨Nat.le_of_ble_eq_true rfl, Nat.le_of_ble_eq_true rfl⟩ rfl rfl (Nat.le_of_ble_eq_true rfl) dX3_readingAt_35 (fun r σ' h => ?_)
  obtain ⟨rfl, rfl⟩ := h
  exact r_iret hc hr rfl dX3_readingAt_38 (hq _ rfl)
noncomputable def f_X3_coarse  (σ : Sg) : Int32 :=
  let r4 := f_X5_remainder ((((f_X3_angle σ) * 64) / 4080) + (f_X5_at 2 3 σ)) 64 σ
  r4
def ok_X3_coarse  (σ : Sg) : Prop :=
  (ok_X3_angle σ) ∧ ((ok_X5_at 2 3 σ) ∧ ((ok_X5_remainder ((((f_X3_angle σ) * 64) / 4080) + (f_X5_at 2 3 σ)) 64 σ) ∧ (let r4 := f_X5_remainder ((((f_X3_angle σ) * 64) / 4080) + (f_X5_at 2 3 σ)) 64 σ
  True)))
set_option maxHeartbeats 4000000 in
set_option maxRecDepth 100000 in
theorem c_X3_coarse (l : Launch) (G : Gt)   {σ : Sg} (hok : ok_X3_coarse  σ) : o_Ci l G yX3_coarse cX3_coarse 2 (some .int) 2 42 [.ref (gAd G 1)] σ (fun r σ' => r = f_X3_coarse  σ ∧ σ' = σ) := by
  refine o_Ci.of (by decide +kernel) (Nat.le_of_ble_eq_true rfl) ?_
  intro p e s m args below meth c hc hr
  have hq : ∀ q : Int32, q = f_X3_coarse  σ → (fun r σ' => r = f_X3_coarse  σ ∧ σ' = σ) q σ := fun q h => ⟨h, rfl⟩
  refine r_aload_n (pc := 0) hc 0 dX3_coarse_0 rfl rfl ?_
  obtain ⟨hs1, hok⟩ := hok
  refine r_callV_i (pc := 1) (as := []) hc (c_X3_angle l _ hs1) kk3 (o_lt hc (by decide)) rfl mV_X3_angle kM_X3_55 ⟨Nat.le_of_ble_eq_true rfl, Nat.le_of_ble_eq_true rfl⟩ ⟨Nat.le_of_ble_eq_true rfl, Nat.le_of_ble_eq_true rfl⟩ rfl rfl (Nat.le_of_ble_eq_true rfl) dX3_coarse_1 (fun r σ' h => ?_)
  obtain ⟨rfl, rfl⟩ := h
  refine r_bipush (pc := 4) (v := 64) hc dX3_coarse_4 (by decide) ?_
  refine r_imul (pc := 6) hc dX3_coarse_6 ?_
  refine r_sipush (pc := 7) (v := 4080) hc dX3_coarse_7 (by decide) ?_
  refine r_idiv (pc := 10) hc dX3_coarse_10 (by decide) ?_
  refine r_istore_n (pc := 11) (lv' := [(1, _), (0, _)]) hc dX3_coarse_11 rfl (by decide) rfl ?_
  refine r_iload_n (pc := 12) hc 0 dX3_coarse_12 rfl rfl ?_
  refine r_aload_n (pc := 13) hc 1 dX3_coarse_13 rfl rfl ?_
  refine r_getr (pc := 14) (j := 2) hc 7 kk3 (o_lt hc (by decide)) rfl (by decide) kF_X3_34 rfl rfl dX3_coarse_14 ?_
  refine r_iconst (pc := 17) (v := 3) hc dX3_coarse_17 rfl ?_
  obtain ⟨hs2, hok⟩ := hok
  refine r_callSN_i (pc := 18) (as := [.ref (gAd G _), .int _]) hc (c_X5_at l _ (Or.inl ⟨by decide, rfl⟩) hs2) mS_X5_at kN_X3_59 ⟨Nat.le_of_ble_eq_true rfl, Nat.le_of_ble_eq_true rfl⟩ ⟨Nat.le_of_ble_eq_true rfl, Nat.le_of_ble_eq_true rfl⟩ rfl rfl (Nat.le_of_ble_eq_true rfl) dX3_coarse_18 (fun r σ' h => ?_)
  obtain ⟨rfl, rfl⟩ := h
  refine r_iadd (pc := 21) hc dX3_coarse_21 ?_
  refine r_bipush (pc := 22) (v := 64) hc dX3_coarse_22 (by decide) ?_
  obtain ⟨hs3, hok⟩ := hok
  refine r_callSN_i (pc := 24) (as := [.int _, .int _]) hc (c_X5_remainder l _ hs3) mS_X5_remainder kN_X3_51 ⟨Nat.le_of_ble_eq_true rfl, Nat.le_of_ble_eq_true rfl⟩ ⟨Nat.le_of_ble_eq_true rfl, Nat.le_of_ble_eq_true rfl⟩ rfl rfl (Nat.le_of_ble_eq_true rfl) dX3_coarse_24 (fun r σ' h => ?_)
  obtain ⟨rfl, rfl⟩ := h
  exact r_iret hc hr rfl dX3_coarse_27 (hq _ rfl)
noncomputable def f_X3_correctionsInUse_4  : Nat → Int32 → Int32 → Sg → Int32
  | 0 => fun _ _ σ => 0
  | n + 1 => fun x1 x2 σ =>
    o_ite (24 ≤ x2) (
      x1) (
      o_ite ((f_X5_at 5 x2 σ) = 0) (
        f_X3_correctionsInUse_4 n x1 (x2 + 1) σ) (
        f_X3_correctionsInUse_4 n (x1 + 1) (x2 + 1) σ))
def ok_X3_correctionsInUse_4  : Nat → Int32 → Int32 → Sg → Prop
  | 0 => fun _ _ _ => False
  | n + 1 => fun x1 x2 σ =>
    ((24 ≤ x2) →
      True) ∧ (¬ (24 ≤ x2) →
      (ok_X5_at 5 x2 σ) ∧ ((((f_X5_at 5 x2 σ) = 0) →
        ok_X3_correctionsInUse_4  n x1 (x2 + 1) σ) ∧ (¬ ((f_X5_at 5 x2 σ) = 0) →
        ok_X3_correctionsInUse_4  n (x1 + 1) (x2 + 1) σ)))
noncomputable def f_X3_correctionsInUse  (σ : Sg) : Int32 :=
  f_X3_correctionsInUse_4  oF 0 0 σ
def ok_X3_correctionsInUse  (σ : Sg) : Prop :=
  ok_X3_correctionsInUse_4  oF 0 0 σ
set_option maxHeartbeats 4000000 in
set_option maxRecDepth 100000 in
theorem t_X3_correctionsInUse_4 {p : Program} {l : Launch} {e : Env} {s : State} {m : MethodId} {args : Array Value} {below : List Frame} {meth : Method} {c : Code} {G : Gt} {post : Int32 → Sg → Prop}   (hc : o_Cx p s m args meth c G cX3_correctionsInUse yX3_correctionsInUse.cls 3) (hr : meth.sig.returnType = (some .int)) : ∀ (n : Nat) (x1 : Int32) (x2 : Int32) (σ : Sg) (hok : ok_X3_correctionsInUse_4  n x1 x2 σ) (hq : ∀ q : Int32, q = f_X3_correctionsInUse_4  n x1 x2 σ → post q σ), o_V p l e { frames := 1, cells := 0, slots := 0, locals := 21 } s m args below meth c (MQ below (va_Qi post (fun σ' t => o_W G σ' t.heap) (o_A G)) args s 0 0 (o_A G)) G 0 0 3 σ 4 [(0, .ref (gAd G 1)), (1, .int x1), (2, .int x2)] [] := by
  intro n
  induction n with
  | zero =>
    intro x1 x2 σ hok hq
    exact hok.elim
  | succ n ih =>
    intro x1 x2 σ hok hq
    refine r_iload_n (pc := 4) hc 2 dX3_correctionsInUse_4 rfl rfl ?_
    refine r_bipush (pc := 5) (v := 24) hc dX3_correctionsInUse_5 (by decide) ?_
    refine r_icmp_ge (pc := 7) (tgt := 30) hc dX3_correctionsInUse_7 (by decide) (fun c7 => ?_) (fun c7 => ?_)
    · have hok := hok.1 c7
      have hq := o_qp hq c7
      refine r_iload_n (pc := 30) hc 1 dX3_correctionsInUse_30 rfl rfl ?_
      exact r_iret hc hr rfl dX3_correctionsInUse_31 (hq _ rfl)
    · have hok := hok.2 c7
      have hq := o_qn hq c7
      refine r_aload_n (pc := 10) hc 0 dX3_correctionsInUse_10 rfl rfl ?_
      refine r_getr (pc := 11) (j := 5) hc 10 kk3 (o_lt hc (by decide)) rfl (by decide) kF_X3_44 rfl rfl dX3_correctionsInUse_11 ?_
      refine r_iload_n (pc := 14) hc 2 dX3_correctionsInUse_14 rfl rfl ?_
      obtain ⟨hs1, hok⟩ := hok
      refine r_callSN_i (pc := 15) (as := [.ref (gAd G _), .int _]) hc (c_X5_at l _ (Or.inl ⟨by decide, rfl⟩) hs1) mS_X5_at kN_X3_59 ⟨Nat.le_of_ble_eq_true rfl, Nat.le_of_ble_eq_true rfl⟩ ⟨Nat.le_of_ble_eq_true rfl, Nat.le_of_ble_eq_true rfl⟩ rfl rfl (Nat.le_of_ble_eq_true rfl) dX3_correctionsInUse_15 (fun r σ' h => ?_)
      obtain ⟨rfl, rfl⟩ := h
      refine r_if_eq (pc := 18) (tgt := 24) hc dX3_correctionsInUse_18 (by decide) (fun c18 => ?_) (fun c18 => ?_)
      · have hok := hok.1 c18
        have hq := o_qp hq c18
        refine r_iinc (pc := 24) (q := 2) (v := _ + 1) (lv' := [(2, _), (0, _), (1, _)]) hc dX3_correctionsInUse_24 rfl rfl (by decide) rfl ?_
        refine r_goto (pc := 27) (tgt := 4) hc dX3_correctionsInUse_27 (by decide) ?_
        exact o_V.sub (ih _ _ _ hok hq) [1, 2, 0] rfl
      · have hok := hok.2 c18
        have hq := o_qn hq c18
        refine r_iinc (pc := 21) (q := 1) (v := _ + 1) (lv' := [(1, _), (0, _), (2, _)]) hc dX3_correctionsInUse_21 rfl rfl (by decide) rfl ?_
        refine r_iinc (pc := 24) (q := 2) (v := _ + 1) (lv' := [(2, _), (1, _), (0, _)]) hc dX3_correctionsInUse_24 rfl rfl (by decide) rfl ?_
        refine r_goto (pc := 27) (tgt := 4) hc dX3_correctionsInUse_27 (by decide) ?_
        exact o_V.sub (ih _ _ _ hok hq) [2, 1, 0] rfl
set_option maxHeartbeats 4000000 in
set_option maxRecDepth 100000 in
theorem c_X3_correctionsInUse (l : Launch) (G : Gt)   {σ : Sg} (hok : ok_X3_correctionsInUse  σ) : o_Ci l G yX3_correctionsInUse cX3_correctionsInUse 3 (some .int) 1 21 [.ref (gAd G 1)] σ (fun r σ' => r = f_X3_correctionsInUse  σ ∧ σ' = σ) := by
  refine o_Ci.of (by decide +kernel) (Nat.le_of_ble_eq_true rfl) ?_
  intro p e s m args below meth c hc hr
  have hq : ∀ q : Int32, q = f_X3_correctionsInUse  σ → (fun r σ' => r = f_X3_correctionsInUse  σ ∧ σ' = σ) q σ := fun q h => ⟨h, rfl⟩
  refine r_iconst (pc := 0) (v := 0) hc dX3_correctionsInUse_0 rfl ?_
  refine r_istore_n (pc := 1) (lv' := [(1, _), (0, _)]) hc dX3_correctionsInUse_1 rfl (by decide) rfl ?_
  refine r_iconst (pc := 2) (v := 0) hc dX3_correctionsInUse_2 rfl ?_
  refine r_istore_n (pc := 3) (lv' := [(2, _), (1, _), (0, _)]) hc dX3_correctionsInUse_3 rfl (by decide) rfl ?_
  exact o_V.sub (t_X3_correctionsInUse_4  hc hr oF _ _ _ hok hq) [2, 1, 0] rfl
noncomputable def f_X3_copyFrom (b : Nat) (b1 : Nat) (σ : Sg) : Sg :=
  let σ1 := pu σ b 0 (σ b1 0)
  let σ2 := pu σ1 b 1 (σ1 b1 1)
  let σ4 := pu σ2 b 2 (σ2 b1 2)
  let σ5 := pu σ4 b 3 (σ4 b1 3)
  let σ6 := pu σ5 b 4 (σ5 b1 4)
  let σ7 := pu σ6 b 5 (σ6 b1 5)
  let σ8 := pu σ7 b 6 (σ7 b1 6)
  let σ10 := f_X5_copy (b1 + 1) (b + 1) σ8
  let σ12 := f_X5_copy (b1 + 2) (b + 2) σ10
  let σ14 := f_X5_copy (b1 + 3) (b + 3) σ12
  let σ16 := f_X5_copy (b1 + 4) (b + 4) σ14
  σ16
def ok_X3_copyFrom (b : Nat) (b1 : Nat) (σ : Sg) : Prop :=
  let σ1 := pu σ b 0 (σ b1 0)
  let σ2 := pu σ1 b 1 (σ1 b1 1)
  (narrow .boolean (.int (σ2 b1 2)) = .int (σ2 b1 2) ∧ fits .boolean (.int (σ2 b1 2)) = true) ∧ (let σ4 := pu σ2 b 2 (σ2 b1 2)
  let σ5 := pu σ4 b 3 (σ4 b1 3)
  let σ6 := pu σ5 b 4 (σ5 b1 4)
  let σ7 := pu σ6 b 5 (σ6 b1 5)
  let σ8 := pu σ7 b 6 (σ7 b1 6)
  (ok_X5_copy (b1 + 1) (b + 1) σ8) ∧ (let σ10 := f_X5_copy (b1 + 1) (b + 1) σ8
  (ok_X5_copy (b1 + 2) (b + 2) σ10) ∧ (let σ12 := f_X5_copy (b1 + 2) (b + 2) σ10
  (ok_X5_copy (b1 + 3) (b + 3) σ12) ∧ (let σ14 := f_X5_copy (b1 + 3) (b + 3) σ12
  (ok_X5_copy (b1 + 4) (b + 4) σ14) ∧ (let σ16 := f_X5_copy (b1 + 4) (b + 4) σ14
  True)))))
set_option maxHeartbeats 4000000 in
set_option maxRecDepth 100000 in
theorem c_X3_copyFrom (l : Launch) (G : Gt) {b : Nat} {b1 : Nat} (hb : o_st b) (hb1 : o_st b1) {σ : Sg} (hok : ok_X3_copyFrom b b1 σ) : o_Cv l G yX3_copyFrom cX3_copyFrom 2 1 22 [.ref (gAd G b), .ref (gAd G b1)] σ (fun σ' => σ' = f_X3_copyFrom b b1 σ) := by
  refine o_Cv.of (by decide +kernel) (Nat.le_of_ble_eq_true rfl) ?_
  intro p e s m args below meth c hc hr
  have hq : ∀ q : Sg, q = f_X3_copyFrom b b1 σ → (fun σ' => σ' = f_X3_copyFrom b b1 σ) q := fun q h => h
  refine r_aload_n (pc := 0) hc 0 dX3_copyFrom_0 rfl rfl ?_
  refine r_aload_n (pc := 1) hc 1 dX3_copyFrom_1 rfl rfl ?_
  refine r_geti (pc := 2) hc 0 kk3 (o_lt hc (by have := hb1.lt; omega)) hb1.kd (by decide) kF_X3_9 rfl (hb1.n (by decide)) dX3_copyFrom_2 ?_
  refine r_put (pc := 5) hc 0 kk3 (o_lt hc (by have := hb.lt; omega)) hb.kd (by decide) kF_X3_9 rfl rfl (hb.n (by decide)) rfl rfl dX3_copyFrom_5 ?_
  refine r_aload_n (pc := 8) hc 0 dX3_copyFrom_8 rfl rfl ?_
  refine r_aload_n (pc := 9) hc 1 dX3_copyFrom_9 rfl rfl ?_
  refine r_geti (pc := 10) hc 1 kk3 (o_lt hc (by have := hb1.lt; omega)) hb1.kd (by decide) kF_X3_15 rfl (hb1.n (by decide)) dX3_copyFrom_10 ?_
  refine r_put (pc := 13) hc 1 kk3 (o_lt hc (by have := hb.lt; omega)) hb.kd (by decide) kF_X3_15 rfl rfl (hb.n (by decide)) rfl rfl dX3_copyFrom_13 ?_
  refine r_aload_n (pc := 16) hc 0 dX3_copyFrom_16 rfl rfl ?_
  refine r_aload_n (pc := 17) hc 1 dX3_copyFrom_17 rfl rfl ?_
  refine r_geti (pc := 18) hc 2 kk3 (o_lt hc (by have := hb1.lt; omega)) hb1.kd (by decide) kF_X3_18 rfl (hb1.n (by decide)) dX3_copyFrom_18 ?_
  obtain ⟨hs3, hok⟩ := hok
  refine r_put (pc := 21) hc 2 kk3 (o_lt hc (by have := hb.lt; omega)) hb.kd (by decide) kF_X3_18 rfl rfl (hb.n (by decide)) hs3.1 hs3.2 dX3_copyFrom_21 ?_
  refine r_aload_n (pc := 24) hc 0 dX3_copyFrom_24 rfl rfl ?_
  refine r_aload_n (pc := 25) hc 1 dX3_copyFrom_25 rfl rfl ?_
  refine r_geti (pc := 26) hc 3 kk3 (o_lt hc (by have := hb1.lt; omega)) hb1.kd (by decide) kF_X3_22 rfl (hb1.n (by decide)) dX3_copyFrom_26 ?_
  refine r_put (pc := 29) hc 3 kk3 (o_lt hc (by have := hb.lt; omega)) hb.kd (by decide) kF_X3_22 rfl rfl (hb.n (by decide)) rfl rfl dX3_copyFrom_29 ?_
  refine r_aload_n (pc := 32) hc 0 dX3_copyFrom_32 rfl rfl ?_
  refine r_aload_n (pc := 33) hc 1 dX3_copyFrom_33 rfl rfl ?_
  refine r_geti (pc := 34) hc 4 kk3 (o_lt hc (by have := hb1.lt; omega)) hb1.kd (by decide) kF_X3_25 rfl (hb1.n (by decide)) dX3_copyFrom_34 ?_
  refine r_put (pc := 37) hc 4 kk3 (o_lt hc (by have := hb.lt; omega)) hb.kd (by decide) kF_X3_25 rfl rfl (hb.n (by decide)) rfl rfl dX3_copyFrom_37 ?_
  refine r_aload_n (pc := 40) hc 0 dX3_copyFrom_40 rfl rfl ?_
  refine r_aload_n (pc := 41) hc 1 dX3_copyFrom_41 rfl rfl ?_
  refine r_geti (pc := 42) hc 5 kk3 (o_lt hc (by have := hb1.lt; omega)) hb1.kd (by decide) kF_X3_28 rfl (hb1.n (by decide)) dX3_copyFrom_42 ?_
  refine r_put (pc := 45) hc 5 kk3 (o_lt hc (by have := hb.lt; omega)) hb.kd (by decide) kF_X3_28 rfl rfl (hb.n (by decide)) rfl rfl dX3_copyFrom_45 ?_
  refine r_aload_n (pc := 48) hc 0 dX3_copyFrom_48 rfl rfl ?_
  refine r_aload_n (pc := 49) hc 1 dX3_copyFrom_49 rfl rfl ?_
  refine r_geti (pc := 50) hc 6 kk3 (o_lt hc (by have := hb1.lt; omega)) hb1.kd (by decide) kF_X3_31 rfl (hb1.n (by decide)) dX3_copyFrom_50 ?_
  refine r_put (pc := 53) hc 6 kk3 (o_lt hc (by have := hb.lt; omega)) hb.kd (by decide) kF_X3_31 rfl rfl (hb.n (by decide)) rfl rfl dX3_copyFrom_53 ?_
  refine r_aload_n (pc := 56) hc 1 dX3_copyFrom_56 rfl rfl ?_
  refine r_getr (pc := 57) (j := (b1 + 1)) hc 7 kk3 (o_lt hc (by have := hb1.lt; omega)) hb1.kd (by decide) kF_X3_34 rfl (hb1.s (by decide)) dX3_copyFrom_57 ?_
  refine r_aload_n (pc := 60) hc 0 dX3_copyFrom_60 rfl rfl ?_
  refine r_getr (pc := 61) (j := (b + 1)) hc 7 kk3 (o_lt hc (by have := hb.lt; omega)) hb.kd (by decide) kF_X3_34 rfl (hb.s (by decide)) dX3_copyFrom_61 ?_
  obtain ⟨hs9, hok⟩ := hok
  refine r_callSN_v (pc := 64) (as := [.ref (gAd G _), .ref (gAd G _)]) hc (c_X5_copy l _ ⟨(by have := hb1.lt; omega), hb1.a1.1⟩ ⟨(by have := hb.lt; omega), hb.a1.1⟩ hs9) mS_X5_copy kN_X3_47 ⟨Nat.le_of_ble_eq_true rfl, Nat.le_of_ble_eq_true rfl⟩ ⟨Nat.le_of_ble_eq_true rfl, Nat.le_of_ble_eq_true rfl⟩ rfl rfl (Nat.le_of_ble_eq_true rfl) dX3_copyFrom_64 (fun σ' h => ?_)
  subst h
  refine r_aload_n (pc := 67) hc 1 dX3_copyFrom_67 rfl rfl ?_
  refine r_getr (pc := 68) (j := (b1 + 2)) hc 8 kk3 (o_lt hc (by have := hb1.lt; omega)) hb1.kd (by decide) kF_X3_38 rfl (hb1.s (by decide)) dX3_copyFrom_68 ?_
  refine r_aload_n (pc := 71) hc 0 dX3_copyFrom_71 rfl rfl ?_
  refine r_getr (pc := 72) (j := (b + 2)) hc 8 kk3 (o_lt hc (by have := hb.lt; omega)) hb.kd (by decide) kF_X3_38 rfl (hb.s (by decide)) dX3_copyFrom_72 ?_
  obtain ⟨hs11, hok⟩ := hok
  refine r_callSN_v (pc := 75) (as := [.ref (gAd G _), .ref (gAd G _)]) hc (c_X5_copy l _ ⟨(by have := hb1.lt; omega), hb1.a2.1⟩ ⟨(by have := hb.lt; omega), hb.a2.1⟩ hs11) mS_X5_copy kN_X3_47 ⟨Nat.le_of_ble_eq_true rfl, Nat.le_of_ble_eq_true rfl⟩ ⟨Nat.le_of_ble_eq_true rfl, Nat.le_of_ble_eq_true rfl⟩ rfl rfl (Nat.le_of_ble_eq_true rfl) dX3_copyFrom_75 (fun σ' h => ?_)
  subst h
  refine r_aload_n (pc := 78) hc 1 dX3_copyFrom_78 rfl rfl ?_
  refine r_getr (pc := 79) (j := (b1 + 3)) hc 9 kk3 (o_lt hc (by have := hb1.lt; omega)) hb1.kd (by decide) kF_X3_41 rfl (hb1.s (by decide)) dX3_copyFrom_79 ?_
  refine r_aload_n (pc := 82) hc 0 dX3_copyFrom_82 rfl rfl ?_
  refine r_getr (pc := 83) (j := (b + 3)) hc 9 kk3 (o_lt hc (by have := hb.lt; omega)) hb.kd (by decide) kF_X3_41 rfl (hb.s (by decide)) dX3_copyFrom_83 ?_
  obtain ⟨hs13, hok⟩ := hok
  refine r_callSN_v (pc := 86) (as := [.ref (gAd G _), .ref (gAd G _)]) hc (c_X5_copy l _ ⟨(by have := hb1.lt; omega), hb1.a3.1⟩ ⟨(by have := hb.lt; omega), hb.a3.1⟩ hs13) mS_X5_copy kN_X3_47 ⟨Nat.le_of_ble_eq_true rfl, Nat.le_of_ble_eq_true rfl⟩ ⟨Nat.le_of_ble_eq_true rfl, Nat.le_of_ble_eq_true rfl⟩ rfl rfl (Nat.le_of_ble_eq_true rfl) dX3_copyFrom_86 (fun σ' h => ?_)
  subst h
  refine r_aload_n (pc := 89) hc 1 dX3_copyFrom_89 rfl rfl ?_
  refine r_getr (pc := 90) (j := (b1 + 4)) hc 10 kk3 (o_lt hc (by have := hb1.lt; omega)) hb1.kd (by decide) kF_X3_44 rfl (hb1.s (by decide)) dX3_copyFrom_90 ?_
  refine r_aload_n (pc := 93) hc 0 dX3_copyFrom_93 rfl rfl ?_
  refine r_getr (pc := 94) (j := (b + 4)) hc 10 kk3 (o_lt hc (by have := hb.lt; omega)) hb.kd (by decide) kF_X3_44 rfl (hb.s (by decide)) dX3_copyFrom_94 ?_
  obtain ⟨hs15, hok⟩ := hok
  refine r_callSN_v (pc := 97) (as := [.ref (gAd G _), .ref (gAd G _)]) hc (c_X5_copy l _ ⟨(by have := hb1.lt; omega), hb1.a4.1⟩ ⟨(by have := hb.lt; omega), hb.a4.1⟩ hs15) mS_X5_copy kN_X3_47 ⟨Nat.le_of_ble_eq_true rfl, Nat.le_of_ble_eq_true rfl⟩ ⟨Nat.le_of_ble_eq_true rfl, Nat.le_of_ble_eq_true rfl⟩ rfl rfl (Nat.le_of_ble_eq_true rfl) dX3_copyFrom_97 (fun σ' h => ?_)
  subst h
  exact r_vret hc hr dX3_copyFrom_100 (hq _ rfl)
noncomputable def f_X3_excess (p1 : Int32) (σ : Sg) : Int32 :=
  let r6 := f_X5_remainder ((f_X3_readingAt p1 (f_X3_angle σ) σ) - (f_X3_angle σ)) (f_X5_at 41 p1 σ) σ
  o_ite (r6 ≤ ((f_X5_at 41 p1 σ) / 2)) (
    r6) (
    (r6 - (f_X5_at 41 p1 σ)))
def ok_X3_excess (p1 : Int32) (σ : Sg) : Prop :=
  (ok_X5_at 41 p1 σ) ∧ ((ok_X3_angle σ) ∧ ((ok_X3_readingAt p1 (f_X3_angle σ) σ) ∧ ((ok_X3_angle σ) ∧ ((ok_X5_remainder ((f_X3_readingAt p1 (f_X3_angle σ) σ) - (f_X3_angle σ)) (f_X5_at 41 p1 σ) σ) ∧ (let r6 := f_X5_remainder ((f_X3_readingAt p1 (f_X3_angle σ) σ) - (f_X3_angle σ)) (f_X5_at 41 p1 σ) σ
  ((r6 ≤ ((f_X5_at 41 p1 σ) / 2)) →
    True) ∧ (¬ (r6 ≤ ((f_X5_at 41 p1 σ) / 2)) →
    True))))))
set_option maxHeartbeats 4000000 in
set_option maxRecDepth 100000 in
theorem c_X3_excess (l : Launch) (G : Gt) {p1 : Int32}  {σ : Sg} (hok : ok_X3_excess p1 σ) : o_Ci l G yX3_excess cX3_excess 4 (some .int) 2 45 [.ref (gAd G 1), .int p1] σ (fun r σ' => r = f_X3_excess p1 σ ∧ σ' = σ) := by
  refine o_Ci.of (by decide +kernel) (Nat.le_of_ble_eq_true rfl) ?_
  intro p e s m args below meth c hc hr
  have hq : ∀ q : Int32, q = f_X3_excess p1 σ → (fun r σ' => r = f_X3_excess p1 σ ∧ σ' = σ) q σ := fun q h => ⟨h, rfl⟩
  refine r_getsN (pc := 0) hc 41 (by decide) (by decide) rfl kN_X3_70 dX3_excess_0 ?_
  refine r_iload_n (pc := 3) hc 1 dX3_excess_3 rfl rfl ?_
  obtain ⟨hs1, hok⟩ := hok
  refine r_callSN_i (pc := 4) (as := [.ref (gAd G _), .int _]) hc (c_X5_at l _ (Or.inr ⟨by decide, by decide⟩) hs1) mS_X5_at kN_X3_59 ⟨Nat.le_of_ble_eq_true rfl, Nat.le_of_ble_eq_true rfl⟩ ⟨Nat.le_of_ble_eq_true rfl, Nat.le_of_ble_eq_true rfl⟩ rfl rfl (Nat.le_of_ble_eq_true rfl) dX3_excess_4 (fun r σ' h => ?_)
  obtain ⟨rfl, rfl⟩ := h
  refine r_istore_n (pc := 7) (lv' := [(2, _), (0, _), (1, _)]) hc dX3_excess_7 rfl (by decide) rfl ?_
  refine r_aload_n (pc := 8) hc 1 dX3_excess_8 rfl rfl ?_
  refine r_iload_n (pc := 9) hc 2 dX3_excess_9 rfl rfl ?_
  refine r_aload_n (pc := 10) hc 1 dX3_excess_10 rfl rfl ?_
  obtain ⟨hs2, hok⟩ := hok
  refine r_callV_i (pc := 11) (as := []) hc (c_X3_angle l _ hs2) kk3 (o_lt hc (by decide)) rfl mV_X3_angle kM_X3_55 ⟨Nat.le_of_ble_eq_true rfl, Nat.le_of_ble_eq_true rfl⟩ ⟨Nat.le_of_ble_eq_true rfl, Nat.le_of_ble_eq_true rfl⟩ rfl rfl (Nat.le_of_ble_eq_true rfl) dX3_excess_11 (fun r σ' h => ?_)
  obtain ⟨rfl, rfl⟩ := h
  obtain ⟨hs3, hok⟩ := hok
  refine r_callV_i (pc := 14) (as := [.int _, .int _]) hc (c_X3_readingAt l _ hs3) kk3 (o_lt hc (by decide)) rfl mV_X3_readingAt kM_X3_73 ⟨Nat.le_of_ble_eq_true rfl, Nat.le_of_ble_eq_true rfl⟩ ⟨Nat.le_of_ble_eq_true rfl, Nat.le_of_ble_eq_true rfl⟩ rfl rfl (Nat.le_of_ble_eq_true rfl) dX3_excess_14 (fun r σ' h => ?_)
  obtain ⟨rfl, rfl⟩ := h
  refine r_aload_n (pc := 17) hc 1 dX3_excess_17 rfl rfl ?_
  obtain ⟨hs4, hok⟩ := hok
  refine r_callV_i (pc := 18) (as := []) hc (c_X3_angle l _ hs4) kk3 (o_lt hc (by decide)) rfl mV_X3_angle kM_X3_55 ⟨Nat.le_of_ble_eq_true rfl, Nat.le_of_ble_eq_true rfl⟩ ⟨Nat.le_of_ble_eq_true rfl, Nat.le_of_ble_eq_true rfl⟩ rfl rfl (Nat.le_of_ble_eq_true rfl) dX3_excess_18 (fun r σ' h => ?_)
  obtain ⟨rfl, rfl⟩ := h
  refine r_isub (pc := 21) hc dX3_excess_21 ?_
  refine r_iload_n (pc := 22) hc 0 dX3_excess_22 rfl rfl ?_
  obtain ⟨hs5, hok⟩ := hok
  refine r_callSN_i (pc := 23) (as := [.int _, .int _]) hc (c_X5_remainder l _ hs5) mS_X5_remainder kN_X3_51 ⟨Nat.le_of_ble_eq_true rfl, Nat.le_of_ble_eq_true rfl⟩ ⟨Nat.le_of_ble_eq_true rfl, Nat.le_of_ble_eq_true rfl⟩ rfl rfl (Nat.le_of_ble_eq_true rfl) dX3_excess_23 (fun r σ' h => ?_)
  obtain ⟨rfl, rfl⟩ := h
  refine r_istore_n (pc := 26) (lv' := [(3, _), (2, _), (0, _), (1, _)]) hc dX3_excess_26 rfl (by decide) rfl ?_
  refine r_iload_n (pc := 27) hc 0 dX3_excess_27 rfl rfl ?_
  refine r_iload_n (pc := 28) hc 1 dX3_excess_28 rfl rfl ?_
  refine r_iconst (pc := 29) (v := 2) hc dX3_excess_29 rfl ?_
  refine r_idiv (pc := 30) hc dX3_excess_30 (by decide) ?_
  refine r_icmp_le (pc := 31) (tgt := 40) hc dX3_excess_31 (by decide) (fun c31 => ?_) (fun c31 => ?_)
  · have hok := hok.1 c31
    have hq := o_qp hq c31
    refine r_iload_n (pc := 40) hc 0 dX3_excess_40 rfl rfl ?_
    exact r_iret hc hr rfl dX3_excess_41 (hq _ rfl)
  · have hok := hok.2 c31
    have hq := o_qn hq c31
    refine r_iload_n (pc := 34) hc 0 dX3_excess_34 rfl rfl ?_
    refine r_iload_n (pc := 35) hc 1 dX3_excess_35 rfl rfl ?_
    refine r_isub (pc := 36) hc dX3_excess_36 ?_
    refine r_goto (pc := 37) (tgt := 41) hc dX3_excess_37 (by decide) ?_
    exact r_iret hc hr rfl dX3_excess_41 (hq _ rfl)
noncomputable def f_X3_corrected (p1 : Int32) (p2 : Int32) (p3 : Int32) (σ : Sg) : Int32 :=
  let r5 := f_X5_remainder (p2 - (f_X5_at 5 (f_X5_cell p1 p3 σ) σ)) (f_X5_at 41 p1 σ) σ
  r5
def ok_X3_corrected (p1 : Int32) (p2 : Int32) (p3 : Int32) (σ : Sg) : Prop :=
  (ok_X5_cell p1 p3 σ) ∧ ((ok_X5_at 5 (f_X5_cell p1 p3 σ) σ) ∧ ((ok_X5_at 41 p1 σ) ∧ ((ok_X5_remainder (p2 - (f_X5_at 5 (f_X5_cell p1 p3 σ) σ)) (f_X5_at 41 p1 σ) σ) ∧ (let r5 := f_X5_remainder (p2 - (f_X5_at 5 (f_X5_cell p1 p3 σ) σ)) (f_X5_at 41 p1 σ) σ
  True))))
set_option maxHeartbeats 4000000 in
set_option maxRecDepth 100000 in
theorem c_X3_corrected (l : Launch) (G : Gt) {p1 : Int32} {p2 : Int32} {p3 : Int32}  {σ : Sg} (hok : ok_X3_corrected p1 p2 p3 σ) : o_Ci l G yX3_corrected cX3_corrected 4 (some .int) 1 22 [.ref (gAd G 1), .int p1, .int p2, .int p3] σ (fun r σ' => r = f_X3_corrected p1 p2 p3 σ ∧ σ' = σ) := by
  refine o_Ci.of (by decide +kernel) (Nat.le_of_ble_eq_true rfl) ?_
  intro p e s m args below meth c hc hr
  have hq : ∀ q : Int32, q = f_X3_corrected p1 p2 p3 σ → (fun r σ' => r = f_X3_corrected p1 p2 p3 σ ∧ σ' = σ) q σ := fun q h => ⟨h, rfl⟩
  refine r_iload_n (pc := 0) hc 2 dX3_corrected_0 rfl rfl ?_
  refine r_aload_n (pc := 1) hc 0 dX3_corrected_1 rfl rfl ?_
  refine r_getr (pc := 2) (j := 5) hc 10 kk3 (o_lt hc (by decide)) rfl (by decide) kF_X3_44 rfl rfl dX3_corrected_2 ?_
  refine r_iload_n (pc := 5) hc 1 dX3_corrected_5 rfl rfl ?_
  refine r_iload_n (pc := 6) hc 3 dX3_corrected_6 rfl rfl ?_
  obtain ⟨hs1, hok⟩ := hok
  refine r_callSN_i (pc := 7) (as := [.int _, .int _]) hc (c_X5_cell l _ hs1) mS_X5_cell kN_X3_67 ⟨Nat.le_of_ble_eq_true rfl, Nat.le_of_ble_eq_true rfl⟩ ⟨Nat.le_of_ble_eq_true rfl, Nat.le_of_ble_eq_true rfl⟩ rfl rfl (Nat.le_of_ble_eq_true rfl) dX3_corrected_7 (fun r σ' h => ?_)
  obtain ⟨rfl, rfl⟩ := h
  obtain ⟨hs2, hok⟩ := hok
  refine r_callSN_i (pc := 10) (as := [.ref (gAd G _), .int _]) hc (c_X5_at l _ (Or.inl ⟨by decide, rfl⟩) hs2) mS_X5_at kN_X3_59 ⟨Nat.le_of_ble_eq_true rfl, Nat.le_of_ble_eq_true rfl⟩ ⟨Nat.le_of_ble_eq_true rfl, Nat.le_of_ble_eq_true rfl⟩ rfl rfl (Nat.le_of_ble_eq_true rfl) dX3_corrected_10 (fun r σ' h => ?_)
  obtain ⟨rfl, rfl⟩ := h
  refine r_isub (pc := 13) hc dX3_corrected_13 ?_
  refine r_getsN (pc := 14) hc 41 (by decide) (by decide) rfl kN_X3_70 dX3_corrected_14 ?_
  refine r_iload_n (pc := 17) hc 1 dX3_corrected_17 rfl rfl ?_
  obtain ⟨hs3, hok⟩ := hok
  refine r_callSN_i (pc := 18) (as := [.ref (gAd G _), .int _]) hc (c_X5_at l _ (Or.inr ⟨by decide, by decide⟩) hs3) mS_X5_at kN_X3_59 ⟨Nat.le_of_ble_eq_true rfl, Nat.le_of_ble_eq_true rfl⟩ ⟨Nat.le_of_ble_eq_true rfl, Nat.le_of_ble_eq_true rfl⟩ rfl rfl (Nat.le_of_ble_eq_true rfl) dX3_corrected_18 (fun r σ' h => ?_)
  obtain ⟨rfl, rfl⟩ := h
  obtain ⟨hs4, hok⟩ := hok
  refine r_callSN_i (pc := 21) (as := [.int _, .int _]) hc (c_X5_remainder l _ hs4) mS_X5_remainder kN_X3_51 ⟨Nat.le_of_ble_eq_true rfl, Nat.le_of_ble_eq_true rfl⟩ ⟨Nat.le_of_ble_eq_true rfl, Nat.le_of_ble_eq_true rfl⟩ rfl rfl (Nat.le_of_ble_eq_true rfl) dX3_corrected_21 (fun r σ' h => ?_)
  obtain ⟨rfl, rfl⟩ := h
  exact r_iret hc hr rfl dX3_corrected_24 (hq _ rfl)
noncomputable def f_X3_crossBound_43  (x1 : Int32) (σ : Sg) : Sg :=
  let σ2 := pu σ 1 1 (f_X5_remainder ((σ 1 1) + x1) 64 σ)
  σ2
def ok_X3_crossBound_43  (x1 : Int32) (σ : Sg) : Prop :=
  (ok_X5_remainder ((σ 1 1) + x1) 64 σ) ∧ (let σ2 := pu σ 1 1 (f_X5_remainder ((σ 1 1) + x1) 64 σ)
  True)
noncomputable def f_X3_crossBound (p1 : Int32) (σ : Sg) : Sg :=
  o_ite ((σ 1 2) = 0) (
    o_ite ((σ 1 3) = 0) (
      σ) (
      let σ1 := pu σ 1 3 ((σ 1 3) - 1)
      o_ite ((σ1 1 4) ≤ 0) (
        f_X3_crossBound_43 p1 σ1) (
        let σ2 := pu σ1 1 4 ((σ1 1 4) - 1)
        σ2))) (
    f_X3_crossBound_43 p1 σ)
def ok_X3_crossBound (p1 : Int32) (σ : Sg) : Prop :=
  (((σ 1 2) = 0) →
    (((σ 1 3) = 0) →
      True) ∧ (¬ ((σ 1 3) = 0) →
      let σ1 := pu σ 1 3 ((σ 1 3) - 1)
      (((σ1 1 4) ≤ 0) →
        ok_X3_crossBound_43 p1 σ1) ∧ (¬ ((σ1 1 4) ≤ 0) →
        let σ2 := pu σ1 1 4 ((σ1 1 4) - 1)
        True))) ∧ (¬ ((σ 1 2) = 0) →
    ok_X3_crossBound_43 p1 σ)
set_option maxHeartbeats 4000000 in
set_option maxRecDepth 100000 in
theorem t_X3_crossBound_43 {p : Program} {l : Launch} {e : Env} {s : State} {m : MethodId} {args : Array Value} {below : List Frame} {meth : Method} {c : Code} {G : Gt} {post : Sg → Prop}   (hc : o_Cx p s m args meth c G cX3_crossBound yX3_crossBound.cls 2) (hr : meth.sig.returnType = none) {x1 : Int32} {σ : Sg} (hok : ok_X3_crossBound_43  x1 σ) (hq : ∀ q : Sg, q = f_X3_crossBound_43  x1 σ → post q) : o_V p l e { frames := 1, cells := 0, slots := 0, locals := 22 } s m args below meth c (MQ below (va_Qv post (fun σ' t => o_W G σ' t.heap) (o_A G)) args s 0 0 (o_A G)) G 0 0 2 σ 43 [(0, .ref (gAd G 1)), (1, .int x1)] [] := by
  refine r_aload_n (pc := 43) hc 0 dX3_crossBound_43 rfl rfl ?_
  refine r_aload_n (pc := 44) hc 0 dX3_crossBound_44 rfl rfl ?_
  refine r_geti (pc := 45) hc 1 kk3 (o_lt hc (by decide)) rfl (by decide) kF_X3_15 rfl rfl dX3_crossBound_45 ?_
  refine r_iload_n (pc := 48) hc 1 dX3_crossBound_48 rfl rfl ?_
  refine r_iadd (pc := 49) hc dX3_crossBound_49 ?_
  refine r_bipush (pc := 50) (v := 64) hc dX3_crossBound_50 (by decide) ?_
  obtain ⟨hs1, hok⟩ := hok
  refine r_callSN_i (pc := 52) (as := [.int _, .int _]) hc (c_X5_remainder l _ hs1) mS_X5_remainder kN_X3_51 ⟨Nat.le_of_ble_eq_true rfl, Nat.le_of_ble_eq_true rfl⟩ ⟨Nat.le_of_ble_eq_true rfl, Nat.le_of_ble_eq_true rfl⟩ rfl rfl (Nat.le_of_ble_eq_true rfl) dX3_crossBound_52 (fun r σ' h => ?_)
  obtain ⟨rfl, rfl⟩ := h
  refine r_put (pc := 55) hc 1 kk3 (o_lt hc (by decide)) rfl (by decide) kF_X3_15 rfl rfl rfl rfl rfl dX3_crossBound_55 ?_
  exact r_vret hc hr dX3_crossBound_58 (hq _ rfl)
set_option maxHeartbeats 4000000 in
set_option maxRecDepth 100000 in
theorem c_X3_crossBound (l : Launch) (G : Gt) {p1 : Int32}  {σ : Sg} (hok : ok_X3_crossBound p1 σ) : o_Cv l G yX3_crossBound cX3_crossBound 2 1 22 [.ref (gAd G 1), .int p1] σ (fun σ' => σ' = f_X3_crossBound p1 σ) := by
  refine o_Cv.of (by decide +kernel) (Nat.le_of_ble_eq_true rfl) ?_
  intro p e s m args below meth c hc hr
  have hq : ∀ q : Sg, q = f_X3_crossBound p1 σ → (fun σ' => σ' = f_X3_crossBound p1 σ) q := fun q h => h
  refine r_aload_n (pc := 0) hc 0 dX3_crossBound_0 rfl rfl ?_
  refine r_geti (pc := 1) hc 2 kk3 (o_lt hc (by decide)) rfl (by decide) kF_X3_18 rfl rfl dX3_crossBound_1 ?_
  refine r_if_ne (pc := 4) (tgt := 43) hc dX3_crossBound_4 (by decide) (fun c4 => ?_) (fun c4 => ?_)
  · have hok := hok.2 c4
    have hq := o_qn hq c4
    exact o_V.sub (t_X3_crossBound_43  hc hr hok hq) [0, 1] rfl
  · have hok := hok.1 c4
    have hq := o_qp hq c4
    refine r_aload_n (pc := 7) hc 0 dX3_crossBound_7 rfl rfl ?_
    refine r_geti (pc := 8) hc 3 kk3 (o_lt hc (by decide)) rfl (by decide) kF_X3_22 rfl rfl dX3_crossBound_8 ?_
    refine r_if_ne (pc := 11) (tgt := 15) hc dX3_crossBound_11 (by decide) (fun c11 => ?_) (fun c11 => ?_)
    · have hok := hok.2 c11
      have hq := o_qn hq c11
      refine r_aload_n (pc := 15) hc 0 dX3_crossBound_15 rfl rfl ?_
      refine r_dup (pc := 16) hc dX3_crossBound_16 rfl ?_
      refine r_geti (pc := 17) hc 3 kk3 (o_lt hc (by decide)) rfl (by decide) kF_X3_22 rfl rfl dX3_crossBound_17 ?_
      refine r_iconst (pc := 20) (v := 1) hc dX3_crossBound_20 rfl ?_
      refine r_isub (pc := 21) hc dX3_crossBound_21 ?_
      refine r_put (pc := 22) hc 3 kk3 (o_lt hc (by decide)) rfl (by decide) kF_X3_22 rfl rfl rfl rfl rfl dX3_crossBound_22 ?_
      refine r_aload_n (pc := 25) hc 0 dX3_crossBound_25 rfl rfl ?_
      refine r_geti (pc := 26) hc 4 kk3 (o_lt hc (by decide)) rfl (by decide) kF_X3_25 rfl rfl dX3_crossBound_26 ?_
      refine r_if_le (pc := 29) (tgt := 43) hc dX3_crossBound_29 (by decide) (fun c29 => ?_) (fun c29 => ?_)
      · have hok := hok.1 c29
        have hq := o_qp hq c29
        exact o_V.sub (t_X3_crossBound_43  hc hr hok hq) [0, 1] rfl
      · have hok := hok.2 c29
        have hq := o_qn hq c29
        refine r_aload_n (pc := 32) hc 0 dX3_crossBound_32 rfl rfl ?_
        refine r_dup (pc := 33) hc dX3_crossBound_33 rfl ?_
        refine r_geti (pc := 34) hc 4 kk3 (o_lt hc (by decide)) rfl (by decide) kF_X3_25 rfl rfl dX3_crossBound_34 ?_
        refine r_iconst (pc := 37) (v := 1) hc dX3_crossBound_37 rfl ?_
        refine r_isub (pc := 38) hc dX3_crossBound_38 ?_
        refine r_put (pc := 39) hc 4 kk3 (o_lt hc (by decide)) rfl (by decide) kF_X3_25 rfl rfl rfl rfl rfl dX3_crossBound_39 ?_
        exact r_vret hc hr dX3_crossBound_42 (hq _ rfl)
    · have hok := hok.1 c11
      have hq := o_qp hq c11
      exact r_vret hc hr dX3_crossBound_14 (hq _ rfl)
noncomputable def f_X3_isPoor (p1 : Int32) (σ : Sg) : Int32 :=
  let v5 := (((f_X5_at 3 (f_X5_cell 0 p1 σ) σ) + (f_X5_at 4 0 σ)) - (f_X5_at 5 (f_X5_cell 0 p1 σ) σ))
  o_ite ((if 0 ≤ v5 then v5 else 0 - v5) ≤ (f_X5_at 2 0 σ)) (
    let v11 := (((f_X5_at 3 (f_X5_cell 1 p1 σ) σ) + (f_X5_at 4 1 σ)) - (f_X5_at 5 (f_X5_cell 1 p1 σ) σ))
    o_ite ((if 0 ≤ v11 then v11 else 0 - v11) ≤ (f_X5_at 2 0 σ)) (
      let v17 := (((f_X5_at 3 (f_X5_cell 2 p1 σ) σ) + (f_X5_at 4 2 σ)) - (f_X5_at 5 (f_X5_cell 2 p1 σ) σ))
      o_ite ((if 0 ≤ v17 then v17 else 0 - v17) ≤ (f_X5_at 2 0 σ)) (
        0) (
        1)) (
      1)) (
    1)
def ok_X3_isPoor (p1 : Int32) (σ : Sg) : Prop :=
  (ok_X5_cell 0 p1 σ) ∧ ((ok_X5_at 3 (f_X5_cell 0 p1 σ) σ) ∧ ((ok_X5_at 4 0 σ) ∧ ((ok_X5_at 5 (f_X5_cell 0 p1 σ) σ) ∧ (let v5 := (((f_X5_at 3 (f_X5_cell 0 p1 σ) σ) + (f_X5_at 4 0 σ)) - (f_X5_at 5 (f_X5_cell 0 p1 σ) σ))
  (ok_X5_at 2 0 σ) ∧ ((((if 0 ≤ v5 then v5 else 0 - v5) ≤ (f_X5_at 2 0 σ)) →
    (ok_X5_cell 1 p1 σ) ∧ ((ok_X5_at 3 (f_X5_cell 1 p1 σ) σ) ∧ ((ok_X5_at 4 1 σ) ∧ ((ok_X5_at 5 (f_X5_cell 1 p1 σ) σ) ∧ (let v11 := (((f_X5_at 3 (f_X5_cell 1 p1 σ) σ) + (f_X5_at 4 1 σ)) - (f_X5_at 5 (f_X5_cell 1 p1 σ) σ))
    (ok_X5_at 2 0 σ) ∧ ((((if 0 ≤ v11 then v11 else 0 - v11) ≤ (f_X5_at 2 0 σ)) →
      (ok_X5_cell 2 p1 σ) ∧ ((ok_X5_at 3 (f_X5_cell 2 p1 σ) σ) ∧ ((ok_X5_at 4 2 σ) ∧ ((ok_X5_at 5 (f_X5_cell 2 p1 σ) σ) ∧ (let v17 := (((f_X5_at 3 (f_X5_cell 2 p1 σ) σ) + (f_X5_at 4 2 σ)) - (f_X5_at 5 (f_X5_cell 2 p1 σ) σ))
      (ok_X5_at 2 0 σ) ∧ ((((if 0 ≤ v17 then v17 else 0 - v17) ≤ (f_X5_at 2 0 σ)) →
        True) ∧ (¬ ((if 0 ≤ v17 then v17 else 0 - v17) ≤ (f_X5_at 2 0 σ)) →
        True))))))) ∧ (¬ ((if 0 ≤ v11 then v11 else 0 - v11) ≤ (f_X5_at 2 0 σ)) →
      True))))))) ∧ (¬ ((if 0 ≤ v5 then v5 else 0 - v5) ≤ (f_X5_at 2 0 σ)) →
    True))))))
set_option maxHeartbeats 4000000 in
set_option maxRecDepth 100000 in
theorem c_X3_isPoor (l : Launch) (G : Gt) {p1 : Int32}  {σ : Sg} (hok : ok_X3_isPoor p1 σ) : o_Ci l G yX3_isPoor cX3_isPoor 5 (some .boolean) 1 21 [.ref (gAd G 1), .int p1] σ (fun r σ' => r = f_X3_isPoor p1 σ ∧ σ' = σ) := by
  refine o_Ci.of (by decide +kernel) (Nat.le_of_ble_eq_true rfl) ?_
  intro p e s m args below meth c hc hr
  have hq : ∀ q : Int32, q = f_X3_isPoor p1 σ → (fun r σ' => r = f_X3_isPoor p1 σ ∧ σ' = σ) q σ := fun q h => ⟨h, rfl⟩
  refine r_iconst (pc := 0) (v := 0) hc dX3_isPoor_0 rfl ?_
  refine r_istore_n (pc := 1) (lv' := [(2, _), (0, _), (1, _)]) hc dX3_isPoor_1 rfl (by decide) rfl ?_
  refine r_iload_n (pc := 2) hc 0 dX3_isPoor_2 rfl rfl ?_
  refine r_iconst (pc := 3) (v := 3) hc dX3_isPoor_3 rfl ?_
  refine r_icmp_ge (pc := 4) (tgt := 65) hc dX3_isPoor_4 (by decide) (fun h => absurd h (by decide)) (fun _ => ?_)
  refine r_iload_n (pc := 7) hc 0 dX3_isPoor_7 rfl rfl ?_
  refine r_iload_n (pc := 8) hc 2 dX3_isPoor_8 rfl rfl ?_
  obtain ⟨hs1, hok⟩ := hok
  refine r_callSN_i (pc := 9) (as := [.int _, .int _]) hc (c_X5_cell l _ hs1) mS_X5_cell kN_X3_67 ⟨Nat.le_of_ble_eq_true rfl, Nat.le_of_ble_eq_true rfl⟩ ⟨Nat.le_of_ble_eq_true rfl, Nat.le_of_ble_eq_true rfl⟩ rfl rfl (Nat.le_of_ble_eq_true rfl) dX3_isPoor_9 (fun r σ' h => ?_)
  obtain ⟨rfl, rfl⟩ := h
  refine r_istore_n (pc := 12) (lv' := [(3, _), (2, _), (0, _), (1, _)]) hc dX3_isPoor_12 rfl (by decide) rfl ?_
  refine r_aload_n (pc := 13) hc 2 dX3_isPoor_13 rfl rfl ?_
  refine r_getr (pc := 14) (j := 3) hc 8 kk3 (o_lt hc (by decide)) rfl (by decide) kF_X3_38 rfl rfl dX3_isPoor_14 ?_
  refine r_iload_n (pc := 17) hc 0 dX3_isPoor_17 rfl rfl ?_
  obtain ⟨hs2, hok⟩ := hok
  refine r_callSN_i (pc := 18) (as := [.ref (gAd G _), .int _]) hc (c_X5_at l _ (Or.inl ⟨by decide, rfl⟩) hs2) mS_X5_at kN_X3_59 ⟨Nat.le_of_ble_eq_true rfl, Nat.le_of_ble_eq_true rfl⟩ ⟨Nat.le_of_ble_eq_true rfl, Nat.le_of_ble_eq_true rfl⟩ rfl rfl (Nat.le_of_ble_eq_true rfl) dX3_isPoor_18 (fun r σ' h => ?_)
  obtain ⟨rfl, rfl⟩ := h
  refine r_aload_n (pc := 21) hc 2 dX3_isPoor_21 rfl rfl ?_
  refine r_getr (pc := 22) (j := 4) hc 9 kk3 (o_lt hc (by decide)) rfl (by decide) kF_X3_41 rfl rfl dX3_isPoor_22 ?_
  refine r_iload_n (pc := 25) hc 1 dX3_isPoor_25 rfl rfl ?_
  obtain ⟨hs3, hok⟩ := hok
  refine r_callSN_i (pc := 26) (as := [.ref (gAd G _), .int _]) hc (c_X5_at l _ (Or.inl ⟨by decide, rfl⟩) hs3) mS_X5_at kN_X3_59 ⟨Nat.le_of_ble_eq_true rfl, Nat.le_of_ble_eq_true rfl⟩ ⟨Nat.le_of_ble_eq_true rfl, Nat.le_of_ble_eq_true rfl⟩ rfl rfl (Nat.le_of_ble_eq_true rfl) dX3_isPoor_26 (fun r σ' h => ?_)
  obtain ⟨rfl, rfl⟩ := h
  refine r_iadd (pc := 29) hc dX3_isPoor_29 ?_
  refine r_aload_n (pc := 30) hc 2 dX3_isPoor_30 rfl rfl ?_
  refine r_getr (pc := 31) (j := 5) hc 10 kk3 (o_lt hc (by decide)) rfl (by decide) kF_X3_44 rfl rfl dX3_isPoor_31 ?_
  refine r_iload_n (pc := 34) hc 0 dX3_isPoor_34 rfl rfl ?_
  obtain ⟨hs4, hok⟩ := hok
  refine r_callSN_i (pc := 35) (as := [.ref (gAd G _), .int _]) hc (c_X5_at l _ (Or.inl ⟨by decide, rfl⟩) hs4) mS_X5_at kN_X3_59 ⟨Nat.le_of_ble_eq_true rfl, Nat.le_of_ble_eq_true rfl⟩ ⟨Nat.le_of_ble_eq_true rfl, Nat.le_of_ble_eq_true rfl⟩ rfl rfl (Nat.le_of_ble_eq_true rfl) dX3_isPoor_35 (fun r σ' h => ?_)
  obtain ⟨rfl, rfl⟩ := h
  refine r_isub (pc := 38) hc dX3_isPoor_38 ?_
  refine r_istore (pc := 39) (lv' := [(4, _), (3, _), (2, _), (0, _), (1, _)]) hc dX3_isPoor_39 (by decide) rfl ?_
  refine r_iload (pc := 41) hc 0 dX3_isPoor_41 rfl ?_
  refine r_abs (pc := 43) hc kM_X3_76 (Nat.le_of_ble_eq_true rfl) (Nat.le_of_ble_eq_true rfl) ⟨Nat.le_of_ble_eq_true rfl, Nat.le_of_ble_eq_true rfl⟩ dX3_isPoor_43 ?_
  refine r_aload_n (pc := 46) hc 3 dX3_isPoor_46 rfl rfl ?_
  refine r_getr (pc := 47) (j := 2) hc 7 kk3 (o_lt hc (by decide)) rfl (by decide) kF_X3_34 rfl rfl dX3_isPoor_47 ?_
  refine r_iconst (pc := 50) (v := 0) hc dX3_isPoor_50 rfl ?_
  obtain ⟨hs6, hok⟩ := hok
  refine r_callSN_i (pc := 51) (as := [.ref (gAd G _), .int _]) hc (c_X5_at l _ (Or.inl ⟨by decide, rfl⟩) hs6) mS_X5_at kN_X3_59 ⟨Nat.le_of_ble_eq_true rfl, Nat.le_of_ble_eq_true rfl⟩ ⟨Nat.le_of_ble_eq_true rfl, Nat.le_of_ble_eq_true rfl⟩ rfl rfl (Nat.le_of_ble_eq_true rfl) dX3_isPoor_51 (fun r σ' h => ?_)
  obtain ⟨rfl, rfl⟩ := h
  refine r_icmp_le (pc := 54) (tgt := 59) hc dX3_isPoor_54 (by decide) (fun c54 => ?_) (fun c54 => ?_)
  · have hok := hok.1 c54
    have hq := o_qp hq c54
    refine r_iinc (pc := 59) (q := 2) (v := 1) (lv' := [(2, _), (4, _), (3, _), (0, _), (1, _)]) hc dX3_isPoor_59 rfl (by decide) (by decide) rfl ?_
    refine r_goto (pc := 62) (tgt := 2) hc dX3_isPoor_62 (by decide) ?_
    refine r_iload_n (pc := 2) hc 0 dX3_isPoor_2 rfl rfl ?_
    refine r_iconst (pc := 3) (v := 3) hc dX3_isPoor_3 rfl ?_
    refine r_icmp_ge (pc := 4) (tgt := 65) hc dX3_isPoor_4 (by decide) (fun h => absurd h (by decide)) (fun _ => ?_)
    refine r_iload_n (pc := 7) hc 0 dX3_isPoor_7 rfl rfl ?_
    refine r_iload_n (pc := 8) hc 4 dX3_isPoor_8 rfl rfl ?_
    obtain ⟨hs7, hok⟩ := hok
    refine r_callSN_i (pc := 9) (as := [.int _, .int _]) hc (c_X5_cell l _ hs7) mS_X5_cell kN_X3_67 ⟨Nat.le_of_ble_eq_true rfl, Nat.le_of_ble_eq_true rfl⟩ ⟨Nat.le_of_ble_eq_true rfl, Nat.le_of_ble_eq_true rfl⟩ rfl rfl (Nat.le_of_ble_eq_true rfl) dX3_isPoor_9 (fun r σ' h => ?_)
    obtain ⟨rfl, rfl⟩ := h
    refine r_istore_n (pc := 12) (lv' := [(3, _), (2, _), (4, _), (0, _), (1, _)]) hc dX3_isPoor_12 rfl (by decide) rfl ?_
    refine r_aload_n (pc := 13) hc 3 dX3_isPoor_13 rfl rfl ?_
    refine r_getr (pc := 14) (j := 3) hc 8 kk3 (o_lt hc (by decide)) rfl (by decide) kF_X3_38 rfl rfl dX3_isPoor_14 ?_
    refine r_iload_n (pc := 17) hc 0 dX3_isPoor_17 rfl rfl ?_
    obtain ⟨hs8, hok⟩ := hok
    refine r_callSN_i (pc := 18) (as := [.ref (gAd G _), .int _]) hc (c_X5_at l _ (Or.inl ⟨by decide, rfl⟩) hs8) mS_X5_at kN_X3_59 ⟨Nat.le_of_ble_eq_true rfl, Nat.le_of_ble_eq_true rfl⟩ ⟨Nat.le_of_ble_eq_true rfl, Nat.le_of_ble_eq_true rfl⟩ rfl rfl (Nat.le_of_ble_eq_true rfl) dX3_isPoor_18 (fun r σ' h => ?_)
    obtain ⟨rfl, rfl⟩ := h
    refine r_aload_n (pc := 21) hc 3 dX3_isPoor_21 rfl rfl ?_
    refine r_getr (pc := 22) (j := 4) hc 9 kk3 (o_lt hc (by decide)) rfl (by decide) kF_X3_41 rfl rfl dX3_isPoor_22 ?_
    refine r_iload_n (pc := 25) hc 1 dX3_isPoor_25 rfl rfl ?_
    obtain ⟨hs9, hok⟩ := hok
    refine r_callSN_i (pc := 26) (as := [.ref (gAd G _), .int _]) hc (c_X5_at l _ (Or.inl ⟨by decide, rfl⟩) hs9) mS_X5_at kN_X3_59 ⟨Nat.le_of_ble_eq_true rfl, Nat.le_of_ble_eq_true rfl⟩ ⟨Nat.le_of_ble_eq_true rfl, Nat.le_of_ble_eq_true rfl⟩ rfl rfl (Nat.le_of_ble_eq_true rfl) dX3_isPoor_26 (fun r σ' h => ?_)
    obtain ⟨rfl, rfl⟩ := h
    refine r_iadd (pc := 29) hc dX3_isPoor_29 ?_
    refine r_aload_n (pc := 30) hc 3 dX3_isPoor_30 rfl rfl ?_
    refine r_getr (pc := 31) (j := 5) hc 10 kk3 (o_lt hc (by decide)) rfl (by decide) kF_X3_44 rfl rfl dX3_isPoor_31 ?_
    refine r_iload_n (pc := 34) hc 0 dX3_isPoor_34 rfl rfl ?_
    obtain ⟨hs10, hok⟩ := hok
    refine r_callSN_i (pc := 35) (as := [.ref (gAd G _), .int _]) hc (c_X5_at l _ (Or.inl ⟨by decide, rfl⟩) hs10) mS_X5_at kN_X3_59 ⟨Nat.le_of_ble_eq_true rfl, Nat.le_of_ble_eq_true rfl⟩ ⟨Nat.le_of_ble_eq_true rfl, Nat.le_of_ble_eq_true rfl⟩ rfl rfl (Nat.le_of_ble_eq_true rfl) dX3_isPoor_35 (fun r σ' h => ?_)
    obtain ⟨rfl, rfl⟩ := h
    refine r_isub (pc := 38) hc dX3_isPoor_38 ?_
    refine r_istore (pc := 39) (lv' := [(4, _), (3, _), (2, _), (0, _), (1, _)]) hc dX3_isPoor_39 (by decide) rfl ?_
    refine r_iload (pc := 41) hc 0 dX3_isPoor_41 rfl ?_
    refine r_abs (pc := 43) hc kM_X3_76 (Nat.le_of_ble_eq_true rfl) (Nat.le_of_ble_eq_true rfl) ⟨Nat.le_of_ble_eq_true rfl, Nat.le_of_ble_eq_true rfl⟩ dX3_isPoor_43 ?_
    refine r_aload_n (pc := 46) hc 3 dX3_isPoor_46 rfl rfl ?_
    refine r_getr (pc := 47) (j := 2) hc 7 kk3 (o_lt hc (by decide)) rfl (by decide) kF_X3_34 rfl rfl dX3_isPoor_47 ?_
    refine r_iconst (pc := 50) (v := 0) hc dX3_isPoor_50 rfl ?_
    obtain ⟨hs12, hok⟩ := hok
    refine r_callSN_i (pc := 51) (as := [.ref (gAd G _), .int _]) hc (c_X5_at l _ (Or.inl ⟨by decide, rfl⟩) hs12) mS_X5_at kN_X3_59 ⟨Nat.le_of_ble_eq_true rfl, Nat.le_of_ble_eq_true rfl⟩ ⟨Nat.le_of_ble_eq_true rfl, Nat.le_of_ble_eq_true rfl⟩ rfl rfl (Nat.le_of_ble_eq_true rfl) dX3_isPoor_51 (fun r σ' h => ?_)
    obtain ⟨rfl, rfl⟩ := h
    refine r_icmp_le (pc := 54) (tgt := 59) hc dX3_isPoor_54 (by decide) (fun c54 => ?_) (fun c54 => ?_)
    · have hok := hok.1 c54
      have hq := o_qp hq c54
      refine r_iinc (pc := 59) (q := 2) (v := 2) (lv' := [(2, _), (4, _), (3, _), (0, _), (1, _)]) hc dX3_isPoor_59 rfl (by decide) (by decide) rfl ?_
      refine r_goto (pc := 62) (tgt := 2) hc dX3_isPoor_62 (by decide) ?_
      refine r_iload_n (pc := 2) hc 0 dX3_isPoor_2 rfl rfl ?_
      refine r_iconst (pc := 3) (v := 3) hc dX3_isPoor_3 rfl ?_
      refine r_icmp_ge (pc := 4) (tgt := 65) hc dX3_isPoor_4 (by decide) (fun h => absurd h (by decide)) (fun _ => ?_)
      refine r_iload_n (pc := 7) hc 0 dX3_isPoor_7 rfl rfl ?_
      refine r_iload_n (pc := 8) hc 4 dX3_isPoor_8 rfl rfl ?_
      obtain ⟨hs13, hok⟩ := hok
      refine r_callSN_i (pc := 9) (as := [.int _, .int _]) hc (c_X5_cell l _ hs13) mS_X5_cell kN_X3_67 ⟨Nat.le_of_ble_eq_true rfl, Nat.le_of_ble_eq_true rfl⟩ ⟨Nat.le_of_ble_eq_true rfl, Nat.le_of_ble_eq_true rfl⟩ rfl rfl (Nat.le_of_ble_eq_true rfl) dX3_isPoor_9 (fun r σ' h => ?_)
      obtain ⟨rfl, rfl⟩ := h
      refine r_istore_n (pc := 12) (lv' := [(3, _), (2, _), (4, _), (0, _), (1, _)]) hc dX3_isPoor_12 rfl (by decide) rfl ?_
      refine r_aload_n (pc := 13) hc 3 dX3_isPoor_13 rfl rfl ?_
      refine r_getr (pc := 14) (j := 3) hc 8 kk3 (o_lt hc (by decide)) rfl (by decide) kF_X3_38 rfl rfl dX3_isPoor_14 ?_
      refine r_iload_n (pc := 17) hc 0 dX3_isPoor_17 rfl rfl ?_
      obtain ⟨hs14, hok⟩ := hok
      refine r_callSN_i (pc := 18) (as := [.ref (gAd G _), .int _]) hc (c_X5_at l _ (Or.inl ⟨by decide, rfl⟩) hs14) mS_X5_at kN_X3_59 ⟨Nat.le_of_ble_eq_true rfl, Nat.le_of_ble_eq_true rfl⟩ ⟨Nat.le_of_ble_eq_true rfl, Nat.le_of_ble_eq_true rfl⟩ rfl rfl (Nat.le_of_ble_eq_true rfl) dX3_isPoor_18 (fun r σ' h => ?_)
      obtain ⟨rfl, rfl⟩ := h
      refine r_aload_n (pc := 21) hc 3 dX3_isPoor_21 rfl rfl ?_
      refine r_getr (pc := 22) (j := 4) hc 9 kk3 (o_lt hc (by decide)) rfl (by decide) kF_X3_41 rfl rfl dX3_isPoor_22 ?_
      refine r_iload_n (pc := 25) hc 1 dX3_isPoor_25 rfl rfl ?_
      obtain ⟨hs15, hok⟩ := hok
      refine r_callSN_i (pc := 26) (as := [.ref (gAd G _), .int _]) hc (c_X5_at l _ (Or.inl ⟨by decide, rfl⟩) hs15) mS_X5_at kN_X3_59 ⟨Nat.le_of_ble_eq_true rfl, Nat.le_of_ble_eq_true rfl⟩ ⟨Nat.le_of_ble_eq_true rfl, Nat.le_of_ble_eq_true rfl⟩ rfl rfl (Nat.le_of_ble_eq_true rfl) dX3_isPoor_26 (fun r σ' h => ?_)
      obtain ⟨rfl, rfl⟩ := h
      refine r_iadd (pc := 29) hc dX3_isPoor_29 ?_
      refine r_aload_n (pc := 30) hc 3 dX3_isPoor_30 rfl rfl ?_
      refine r_getr (pc := 31) (j := 5) hc 10 kk3 (o_lt hc (by decide)) rfl (by decide) kF_X3_44 rfl rfl dX3_isPoor_31 ?_
      refine r_iload_n (pc := 34) hc 0 dX3_isPoor_34 rfl rfl ?_
      obtain ⟨hs16, hok⟩ := hok
      refine r_callSN_i (pc := 35) (as := [.ref (gAd G _), .int _]) hc (c_X5_at l _ (Or.inl ⟨by decide, rfl⟩) hs16) mS_X5_at kN_X3_59 ⟨Nat.le_of_ble_eq_true rfl, Nat.le_of_ble_eq_true rfl⟩ ⟨Nat.le_of_ble_eq_true rfl, Nat.le_of_ble_eq_true rfl⟩ rfl rfl (Nat.le_of_ble_eq_true rfl) dX3_isPoor_35 (fun r σ' h => ?_)
      obtain ⟨rfl, rfl⟩ := h
      refine r_isub (pc := 38) hc dX3_isPoor_38 ?_
      refine r_istore (pc := 39) (lv' := [(4, _), (3, _), (2, _), (0, _), (1, _)]) hc dX3_isPoor_39 (by decide) rfl ?_
      refine r_iload (pc := 41) hc 0 dX3_isPoor_41 rfl ?_
      refine r_abs (pc := 43) hc kM_X3_76 (Nat.le_of_ble_eq_true rfl) (Nat.le_of_ble_eq_true rfl) ⟨Nat.le_of_ble_eq_true rfl, Nat.le_of_ble_eq_true rfl⟩ dX3_isPoor_43 ?_
      refine r_aload_n (pc := 46) hc 3 dX3_isPoor_46 rfl rfl ?_
      refine r_getr (pc := 47) (j := 2) hc 7 kk3 (o_lt hc (by decide)) rfl (by decide) kF_X3_34 rfl rfl dX3_isPoor_47 ?_
      refine r_iconst (pc := 50) (v := 0) hc dX3_isPoor_50 rfl ?_
      obtain ⟨hs18, hok⟩ := hok
      refine r_callSN_i (pc := 51) (as := [.ref (gAd G _), .int _]) hc (c_X5_at l _ (Or.inl ⟨by decide, rfl⟩) hs18) mS_X5_at kN_X3_59 ⟨Nat.le_of_ble_eq_true rfl, Nat.le_of_ble_eq_true rfl⟩ ⟨Nat.le_of_ble_eq_true rfl, Nat.le_of_ble_eq_true rfl⟩ rfl rfl (Nat.le_of_ble_eq_true rfl) dX3_isPoor_51 (fun r σ' h => ?_)
      obtain ⟨rfl, rfl⟩ := h
      refine r_icmp_le (pc := 54) (tgt := 59) hc dX3_isPoor_54 (by decide) (fun c54 => ?_) (fun c54 => ?_)
      · have hok := hok.1 c54
        have hq := o_qp hq c54
        refine r_iinc (pc := 59) (q := 2) (v := 3) (lv' := [(2, _), (4, _), (3, _), (0, _), (1, _)]) hc dX3_isPoor_59 rfl (by decide) (by decide) rfl ?_
        refine r_goto (pc := 62) (tgt := 2) hc dX3_isPoor_62 (by decide) ?_
        refine r_iload_n (pc := 2) hc 0 dX3_isPoor_2 rfl rfl ?_
        refine r_iconst (pc := 3) (v := 3) hc dX3_isPoor_3 rfl ?_
        refine r_icmp_ge (pc := 4) (tgt := 65) hc dX3_isPoor_4 (by decide) (fun _ => ?_) (fun h => absurd (by decide) h)
        refine r_iconst (pc := 65) (v := 0) hc dX3_isPoor_65 rfl ?_
        exact r_iret hc hr rfl dX3_isPoor_66 (hq _ rfl)
      · have hok := hok.2 c54
        have hq := o_qn hq c54
        refine r_iconst (pc := 57) (v := 1) hc dX3_isPoor_57 rfl ?_
        exact r_iret hc hr rfl dX3_isPoor_58 (hq _ rfl)
    · have hok := hok.2 c54
      have hq := o_qn hq c54
      refine r_iconst (pc := 57) (v := 1) hc dX3_isPoor_57 rfl ?_
      exact r_iret hc hr rfl dX3_isPoor_58 (hq _ rfl)
  · have hok := hok.2 c54
    have hq := o_qn hq c54
    refine r_iconst (pc := 57) (v := 1) hc dX3_isPoor_57 rfl ?_
    exact r_iret hc hr rfl dX3_isPoor_58 (hq _ rfl)
