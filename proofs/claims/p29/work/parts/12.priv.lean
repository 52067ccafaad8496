set_option linter.all false
noncomputable def f_X2_slot (p1 : Int32) (σ : Sg) : Nat :=
  o_ite ((f_X5_remainder ((σ 6 1) + p1) 4 σ) < 0) (
    0) (
    o_ite (4 ≤ (f_X5_remainder ((σ 6 1) + p1) 4 σ)) (
      0) (
      (8 + 5 * (f_X5_remainder ((σ 6 1) + p1) 4 σ).toNatClampNeg)))
def ok_X2_slot (p1 : Int32) (σ : Sg) : Prop :=
  (ok_X5_remainder ((σ 6 1) + p1) 4 σ) ∧ ((((f_X5_remainder ((σ 6 1) + p1) 4 σ) < 0) →
    (False) ∧ (True)) ∧ (¬ ((f_X5_remainder ((σ 6 1) + p1) 4 σ) < 0) →
    ((4 ≤ (f_X5_remainder ((σ 6 1) + p1) 4 σ)) →
      (False) ∧ (True)) ∧ (¬ (4 ≤ (f_X5_remainder ((σ 6 1) + p1) 4 σ)) →
      (vp_in (f_X5_remainder ((σ 6 1) + p1) 4 σ) 4) ∧ (True))))
set_option maxHeartbeats 4000000 in
set_option maxRecDepth 100000 in
theorem c_X2_slot (l : Launch) (G : Gt) {p1 : Int32}  {σ : Sg} (hok : ok_X2_slot p1 σ) : o_Cr l G yX2_slot cX2_slot 3 (some (.object RX3)) 1 22 [.ref (gAd G 6), .int p1] σ (fun b => b = f_X2_slot p1 σ) := by
  refine o_Cr.of (by decide +kernel) (Nat.le_of_ble_eq_true rfl) ?_
  intro p e s m args below meth c hc hr
  have hq : ∀ q : Nat, q = f_X2_slot p1 σ → (fun b => b = f_X2_slot p1 σ) q := fun q h => h
  refine r_aload_n (pc := 0) hc 0 dX2_slot_0 rfl rfl ?_
  refine r_geti (pc := 1) hc 1 kk2 (o_lt hc (by decide)) rfl (by decide) kF_X2_18 rfl rfl dX2_slot_1 ?_
  refine r_iload_n (pc := 4) hc 1 dX2_slot_4 rfl rfl ?_
  refine r_iadd (pc := 5) hc dX2_slot_5 ?_
  refine r_iconst (pc := 6) (v := 4) hc dX2_slot_6 rfl ?_
  obtain ⟨hs1, hok⟩ := hok
  refine r_callSN_i (pc := 7) (as := [.int _, .int _]) hc (c_X5_remainder l _ hs1) mS_X5_remainder kN_X2_25 ⟨Nat.le_of_ble_eq_true rfl, Nat.le_of_ble_eq_true rfl⟩ ⟨Nat.le_of_ble_eq_true rfl, Nat.le_of_ble_eq_true rfl⟩ rfl rfl (Nat.le_of_ble_eq_true rfl) dX2_slot_7 (fun r σ' h => ?_)
  obtain ⟨rfl, rfl⟩ := h
  refine r_istore_n (pc := 10) (lv' := [(2, _), (0, _), (1, _)]) hc dX2_slot_10 rfl (by decide) rfl ?_
  refine r_iload_n (pc := 11) hc 0 dX2_slot_11 rfl rfl ?_
  refine r_if_lt (pc := 12) (tgt := 33) hc dX2_slot_12 (by decide) (fun c12 => ?_) (fun c12 => ?_)
  · have hok := hok.1 c12
    have hq := o_qp hq c12
    exact absurd hok.1 id
  · have hok := hok.2 c12
    have hq := o_qn hq c12
    refine r_iload_n (pc := 15) hc 0 dX2_slot_15 rfl rfl ?_
    refine r_aload_n (pc := 16) hc 1 dX2_slot_16 rfl rfl ?_
    refine r_getr (pc := 17) (j := 7) hc 0 kk2 (o_lt hc (by decide)) rfl (by decide) kF_X2_12 rfl rfl dX2_slot_17 ?_
    refine r_alenQ (pc := 20) hc dX2_slot_20 ?_
    refine r_icmp_ge (pc := 21) (tgt := 33) hc dX2_slot_21 (by decide) (fun c21 => ?_) (fun c21 => ?_)
    · have hok := hok.1 c21
      have hq := o_qp hq c21
      exact absurd hok.1 id
    · have hok := hok.2 c21
      have hq := o_qn hq c21
      refine r_aload_n (pc := 24) hc 1 dX2_slot_24 rfl rfl ?_
      refine r_getr (pc := 25) (j := 7) hc 0 kk2 (o_lt hc (by decide)) rfl (by decide) kF_X2_12 rfl rfl dX2_slot_25 ?_
      refine r_iload_n (pc := 28) hc 0 dX2_slot_28 rfl rfl ?_
      obtain ⟨hs2, hok⟩ := hok
      refine r_aald (pc := 29) hc hs2 rfl dX2_slot_29 ?_
      refine r_goto (pc := 30) (tgt := 34) hc dX2_slot_30 (by decide) ?_
      exact r_aret hc hr dX2_slot_34 rfl (hq _ rfl)
noncomputable def f_X2_keep_32   (σ : Sg) : Sg :=
  let σ4 := f_X3_copyFrom (f_X2_slot (σ 6 2) σ) 1 σ
  let σ5 := pu σ4 6 2 ((σ4 6 2) + 1)
  σ5
def ok_X2_keep_32   (σ : Sg) : Prop :=
  (ok_X2_slot (σ 6 2) σ) ∧ ((o_st (f_X2_slot (σ 6 2) σ)) ∧ ((ok_X3_copyFrom (f_X2_slot (σ 6 2) σ) 1 σ) ∧ (let σ4 := f_X3_copyFrom (f_X2_slot (σ 6 2) σ) 1 σ
  let σ5 := pu σ4 6 2 ((σ4 6 2) + 1)
  True)))
noncomputable def f_X2_keep  (σ : Sg) : Sg :=
  o_ite ((σ 6 2) = 4) (
    let σ2 := pu σ 6 1 (f_X5_remainder ((σ 6 1) + 1) 4 σ)
    let σ3 := pu σ2 6 2 ((σ2 6 2) - 1)
    f_X2_keep_32 σ3) (
    f_X2_keep_32 σ)
def ok_X2_keep  (σ : Sg) : Prop :=
  (((σ 6 2) = 4) →
    (ok_X5_remainder ((σ 6 1) + 1) 4 σ) ∧ (let σ2 := pu σ 6 1 (f_X5_remainder ((σ 6 1) + 1) 4 σ)
    let σ3 := pu σ2 6 2 ((σ2 6 2) - 1)
    ok_X2_keep_32 σ3)) ∧ (¬ ((σ 6 2) = 4) →
    ok_X2_keep_32 σ)
set_option maxHeartbeats 4000000 in
set_option maxRecDepth 100000 in
theorem t_X2_keep_32 {p : Program} {l : Launch} {e : Env} {s : State} {m : MethodId} {args : Array Value} {below : List Frame} {meth : Method} {c : Code} {G : Gt} {post : Sg → Prop}   (hc : o_Cx p s m args meth c G cX2_keep yX2_keep.cls 3) (hr : meth.sig.returnType = none)  {σ : Sg} (hok : ok_X2_keep_32   σ) (hq : ∀ q : Sg, q = f_X2_keep_32   σ → post q) : o_V p l e { frames := 2, cells := 0, slots := 0, locals := 44 } s m args below meth c (MQ below (va_Qv post (fun σ' t => o_W G σ' t.heap) (o_A G)) args s 0 0 (o_A G)) G 0 0 3 σ 32 [(0, .ref (gAd G 6)), (1, .ref (gAd G 1))] [] := by
  refine r_aload_n (pc := 32) hc 0 dX2_keep_32 rfl rfl ?_
  refine r_aload_n (pc := 33) hc 0 dX2_keep_33 rfl rfl ?_
  refine r_geti (pc := 34) hc 2 kk2 (o_lt hc (by decide)) rfl (by decide) kF_X2_22 rfl rfl dX2_keep_34 ?_
  obtain ⟨hs1, hok⟩ := hok
  refine r_callV_r (pc := 37) (as := [.int _]) hc (c_X2_slot l _ hs1) kk2 (o_lt hc (by decide)) rfl mV_X2_slot kM_X2_29 ⟨Nat.le_of_ble_eq_true rfl, Nat.le_of_ble_eq_true rfl⟩ ⟨Nat.le_of_ble_eq_true rfl, Nat.le_of_ble_eq_true rfl⟩ rfl rfl (Nat.le_of_ble_eq_true rfl) dX2_keep_37 (fun b h => ?_)
  subst h
  refine r_astore_n (pc := 40) (lv' := [(2, _), (0, _), (1, _)]) hc dX2_keep_40 rfl (by decide) rfl ?_
  refine r_aload_n (pc := 41) hc 0 dX2_keep_41 rfl rfl ?_
  refine r_ifnull (pc := 42) hc dX2_keep_42 ?_
  refine r_aload_n (pc := 45) hc 0 dX2_keep_45 rfl rfl ?_
  refine r_aload_n (pc := 46) hc 2 dX2_keep_46 rfl rfl ?_
  obtain ⟨hs2, hok⟩ := hok
  obtain ⟨hs3, hok⟩ := hok
  refine r_callVN_v (pc := 47) (as := [.ref (gAd G _)]) hc (c_X3_copyFrom l _ hs2 (Or.inl rfl) hs3) kk3 (o_lt hc (by have := hs2.lt; omega)) hs2.kd mV_X3_copyFrom kN_X2_33 ⟨Nat.le_of_ble_eq_true rfl, Nat.le_of_ble_eq_true rfl⟩ ⟨Nat.le_of_ble_eq_true rfl, Nat.le_of_ble_eq_true rfl⟩ rfl rfl (Nat.le_of_ble_eq_true rfl) dX2_keep_47 (fun σ' h => ?_)
  subst h
  refine r_aload_n (pc := 50) hc 1 dX2_keep_50 rfl rfl ?_
  refine r_dup (pc := 51) hc dX2_keep_51 rfl ?_
  refine r_geti (pc := 52) hc 2 kk2 (o_lt hc (by decide)) rfl (by decide) kF_X2_22 rfl rfl dX2_keep_52 ?_
  refine r_iconst (pc := 55) (v := 1) hc dX2_keep_55 rfl ?_
  refine r_iadd (pc := 56) hc dX2_keep_56 ?_
  refine r_put (pc := 57) hc 2 kk2 (o_lt hc (by decide)) rfl (by decide) kF_X2_22 rfl rfl rfl rfl rfl dX2_keep_57 ?_
  exact r_vret hc hr dX2_keep_60 (hq _ rfl)
set_option maxHeartbeats 4000000 in
set_option maxRecDepth 100000 in
theorem c_X2_keep (l : Launch) (G : Gt)   {σ : Sg} (hok : ok_X2_keep  σ) : o_Cv l G yX2_keep cX2_keep 3 2 44 [.ref (gAd G 6), .ref (gAd G 1)] σ (fun σ' => σ' = f_X2_keep  σ) := by
  refine o_Cv.of (by decide +kernel) (Nat.le_of_ble_eq_true rfl) ?_
  intro p e s m args below meth c hc hr
  have hq : ∀ q : Sg, q = f_X2_keep  σ → (fun σ' => σ' = f_X2_keep  σ) q := fun q h => h
  refine r_aload_n (pc := 0) hc 0 dX2_keep_0 rfl rfl ?_
  refine r_geti (pc := 1) hc 2 kk2 (o_lt hc (by decide)) rfl (by decide) kF_X2_22 rfl rfl dX2_keep_1 ?_
  refine r_iconst (pc := 4) (v := 4) hc dX2_keep_4 rfl ?_
  refine r_icmp_ne (pc := 5) (tgt := 32) hc dX2_keep_5 (by decide) (fun c5 => ?_) (fun c5 => ?_)
  · have hok := hok.2 c5
    have hq := o_qn hq c5
    exact o_V.sub (t_X2_keep_32  hc hr hok hq) [0, 1] rfl
  · have hok := hok.1 c5
    have hq := o_qp hq c5
    refine r_aload_n (pc := 8) hc 0 dX2_keep_8 rfl rfl ?_
    refine r_aload_n (pc := 9) hc 0 dX2_keep_9 rfl rfl ?_
    refine r_geti (pc := 10) hc 1 kk2 (o_lt hc (by decide)) rfl (by decide) kF_X2_18 rfl rfl dX2_keep_10 ?_
    refine r_iconst (pc := 13) (v := 1) hc dX2_keep_13 rfl ?_
    refine r_iadd (pc := 14) hc dX2_keep_14 ?_
    refine r_iconst (pc := 15) (v := 4) hc dX2_keep_15 rfl ?_
    obtain ⟨hs1, hok⟩ := hok
    refine r_callSN_i (pc := 16) (as := [.int _, .int _]) hc (c_X5_remainder l _ hs1) mS_X5_remainder kN_X2_25 ⟨Nat.le_of_ble_eq_true rfl, Nat.le_of_ble_eq_true rfl⟩ ⟨Nat.le_of_ble_eq_true rfl, Nat.le_of_ble_eq_true rfl⟩ rfl rfl (Nat.le_of_ble_eq_true rfl) dX2_keep_16 (fun r σ' h => ?_)
    obtain ⟨rfl, rfl⟩ := h
    refine r_put (pc := 19) hc 1 kk2 (o_lt hc (by decide)) rfl (by decide) kF_X2_18 rfl rfl rfl rfl rfl dX2_keep_19 ?_
    refine r_aload_n (pc := 22) hc 0 dX2_keep_22 rfl rfl ?_
    refine r_dup (pc := 23) hc dX2_keep_23 rfl ?_
    refine r_geti (pc := 24) hc 2 kk2 (o_lt hc (by decide)) rfl (by decide) kF_X2_22 rfl rfl dX2_keep_24 ?_
    refine r_iconst (pc := 27) (v := 1) hc dX2_keep_27 rfl ?_
    refine r_isub (pc := 28) hc dX2_keep_28 ?_
    refine r_put (pc := 29) hc 2 kk2 (o_lt hc (by decide)) rfl (by decide) kF_X2_22 rfl rfl rfl rfl rfl dX2_keep_29 ?_
    exact o_V.sub (t_X2_keep_32  hc hr hok hq) [0, 1] rfl
noncomputable def f_X1_searchCorrected (p2 : Int32) (p3 : Int32) (σ : Sg) : Sg :=
  let r8 := f_X5_nearestAngle (f_X3_corrected 0 (f_X3_readingAt 0 p2 σ) p3 σ) (f_X3_corrected 1 (f_X3_readingAt 1 p2 σ) p3 σ) (f_X3_corrected 2 (f_X3_readingAt 2 p2 σ) p3 σ) σ
  let σ9 := pu σ 28 1 r8
  let r11 := f_X5_deviation (σ9 28 1) (f_X3_corrected 0 (f_X3_readingAt 0 p2 σ) p3 σ) (f_X3_corrected 1 (f_X3_readingAt 1 p2 σ) p3 σ) (f_X3_corrected 2 (f_X3_readingAt 2 p2 σ) p3 σ) σ9
  let σ12 := pu σ9 28 2 r11
  σ12
def ok_X1_searchCorrected (p2 : Int32) (p3 : Int32) (σ : Sg) : Prop :=
  (ok_X3_readingAt 0 p2 σ) ∧ ((ok_X3_corrected 0 (f_X3_readingAt 0 p2 σ) p3 σ) ∧ ((ok_X3_readingAt 1 p2 σ) ∧ ((ok_X3_corrected 1 (f_X3_readingAt 1 p2 σ) p3 σ) ∧ ((ok_X3_readingAt 2 p2 σ) ∧ ((ok_X3_corrected 2 (f_X3_readingAt 2 p2 σ) p3 σ) ∧ ((ok_X5_nearestAngle (f_X3_corrected 0 (f_X3_readingAt 0 p2 σ) p3 σ) (f_X3_corrected 1 (f_X3_readingAt 1 p2 σ) p3 σ) (f_X3_corrected 2 (f_X3_readingAt 2 p2 σ) p3 σ) σ) ∧ (let r8 := f_X5_nearestAngle (f_X3_corrected 0 (f_X3_readingAt 0 p2 σ) p3 σ) (f_X3_corrected 1 (f_X3_readingAt 1 p2 σ) p3 σ) (f_X3_corrected 2 (f_X3_readingAt 2 p2 σ) p3 σ) σ
  let σ9 := pu σ 28 1 r8
  (ok_X5_deviation (σ9 28 1) (f_X3_corrected 0 (f_X3_readingAt 0 p2 σ) p3 σ) (f_X3_corrected 1 (f_X3_readingAt 1 p2 σ) p3 σ) (f_X3_corrected 2 (f_X3_readingAt 2 p2 σ) p3 σ) σ9) ∧ (let r11 := f_X5_deviation (σ9 28 1) (f_X3_corrected 0 (f_X3_readingAt 0 p2 σ) p3 σ) (f_X3_corrected 1 (f_X3_readingAt 1 p2 σ) p3 σ) (f_X3_corrected 2 (f_X3_readingAt 2 p2 σ) p3 σ) σ9
  let σ12 := pu σ9 28 2 r11
  True))))))))
set_option maxHeartbeats 4000000 in
set_option maxRecDepth 100000 in
theorem c_X1_searchCorrected (l : Launch) (G : Gt) {p2 : Int32} {p3 : Int32}  {σ : Sg} (hok : ok_X1_searchCorrected p2 p3 σ) : o_Cv l G yX1_searchCorrected cX1_searchCorrected 7 4 96 [.ref (gAd G 28), .ref (gAd G 1), .int p2, .int p3] σ (fun σ' => σ' = f_X1_searchCorrected p2 p3 σ) := by
  refine o_Cv.of (by decide +kernel) (Nat.le_of_ble_eq_true rfl) ?_
  intro p e s m args below meth c hc hr
  have hq : ∀ q : Sg, q = f_X1_searchCorrected p2 p3 σ → (fun σ' => σ' = f_X1_searchCorrected p2 p3 σ) q := fun q h => h
  refine r_aload_n (pc := 0) hc 1 dX1_searchCorrected_0 rfl rfl ?_
  refine r_iconst (pc := 1) (v := 0) hc dX1_searchCorrected_1 rfl ?_
  refine r_aload_n (pc := 2) hc 1 dX1_searchCorrected_2 rfl rfl ?_
  refine r_iconst (pc := 3) (v := 0) hc dX1_searchCorrected_3 rfl ?_
  refine r_iload_n (pc := 4) hc 2 dX1_searchCorrected_4 rfl rfl ?_
  obtain ⟨hs1, hok⟩ := hok
  refine r_callVN_i (pc := 5) (as := [.int _, .int _]) hc (c_X3_readingAt l _ hs1) kk3 (o_lt hc (by decide)) rfl mV_X3_readingAt kN_X1_22 ⟨Nat.le_of_ble_eq_true rfl, Nat.le_of_ble_eq_true rfl⟩ ⟨Nat.le_of_ble_eq_true rfl, Nat.le_of_ble_eq_true rfl⟩ rfl rfl (Nat.le_of_ble_eq_true rfl) dX1_searchCorrected_5 (fun r σ' h => ?_)
  obtain ⟨rfl, rfl⟩ := h
  refine r_iload_n (pc := 8) hc 3 dX1_searchCorrected_8 rfl rfl ?_
  obtain ⟨hs2, hok⟩ := hok
  refine r_callVN_i (pc := 9) (as := [.int _, .int _, .int _]) hc (c_X3_corrected l _ hs2) kk3 (o_lt hc (by decide)) rfl mV_X3_corrected kN_X1_42 ⟨Nat.le_of_ble_eq_true rfl, Nat.le_of_ble_eq_true rfl⟩ ⟨Nat.le_of_ble_eq_true rfl, Nat.le_of_ble_eq_true rfl⟩ rfl rfl (Nat.le_of_ble_eq_true rfl) dX1_searchCorrected_9 (fun r σ' h => ?_)
  obtain ⟨rfl, rfl⟩ := h
  refine r_istore (pc := 12) (lv' := [(4, _), (0, _), (1, _), (2, _), (3, _)]) hc dX1_searchCorrected_12 (by decide) rfl ?_
  refine r_aload_n (pc := 14) hc 2 dX1_searchCorrected_14 rfl rfl ?_
  refine r_iconst (pc := 15) (v := 1) hc dX1_searchCorrected_15 rfl ?_
  refine r_aload_n (pc := 16) hc 2 dX1_searchCorrected_16 rfl rfl ?_
  refine r_iconst (pc := 17) (v := 1) hc dX1_searchCorrected_17 rfl ?_
  refine r_iload_n (pc := 18) hc 3 dX1_searchCorrected_18 rfl rfl ?_
  obtain ⟨hs3, hok⟩ := hok
  refine r_callVN_i (pc := 19) (as := [.int _, .int _]) hc (c_X3_readingAt l _ hs3) kk3 (o_lt hc (by decide)) rfl mV_X3_readingAt kN_X1_22 ⟨Nat.le_of_ble_eq_true rfl, Nat.le_of_ble_eq_true rfl⟩ ⟨Nat.le_of_ble_eq_true rfl, Nat.le_of_ble_eq_true rfl⟩ rfl rfl (Nat.le_of_ble_eq_true rfl) dX1_searchCorrected_19 (fun r σ' h => ?_)
  obtain ⟨rfl, rfl⟩ := h
  refine r_iload_n (pc := 22) hc 4 dX1_searchCorrected_22 rfl rfl ?_
  obtain ⟨hs4, hok⟩ := hok
  refine r_callVN_i (pc := 23) (as := [.int _, .int _, .int _]) hc (c_X3_corrected l _ hs4) kk3 (o_lt hc (by decide)) rfl mV_X3_corrected kN_X1_42 ⟨Nat.le_of_ble_eq_true rfl, Nat.le_of_ble_eq_true rfl⟩ ⟨Nat.le_of_ble_eq_true rfl, Nat.le_of_ble_eq_true rfl⟩ rfl rfl (Nat.le_of_ble_eq_true rfl) dX1_searchCorrected_23 (fun r σ' h => ?_)
  obtain ⟨rfl, rfl⟩ := h
  refine r_istore (pc := 26) (lv' := [(5, _), (4, _), (0, _), (1, _), (2, _), (3, _)]) hc dX1_searchCorrected_26 (by decide) rfl ?_
  refine r_aload_n (pc := 28) hc 3 dX1_searchCorrected_28 rfl rfl ?_
  refine r_iconst (pc := 29) (v := 2) hc dX1_searchCorrected_29 rfl ?_
  refine r_aload_n (pc := 30) hc 3 dX1_searchCorrected_30 rfl rfl ?_
  refine r_iconst (pc := 31) (v := 2) hc dX1_searchCorrected_31 rfl ?_
  refine r_iload_n (pc := 32) hc 4 dX1_searchCorrected_32 rfl rfl ?_
  obtain ⟨hs5, hok⟩ := hok
  refine r_callVN_i (pc := 33) (as := [.int _, .int _]) hc (c_X3_readingAt l _ hs5) kk3 (o_lt hc (by decide)) rfl mV_X3_readingAt kN_X1_22 ⟨Nat.le_of_ble_eq_true rfl, Nat.le_of_ble_eq_true rfl⟩ ⟨Nat.le_of_ble_eq_true rfl, Nat.le_of_ble_eq_true rfl⟩ rfl rfl (Nat.le_of_ble_eq_true rfl) dX1_searchCorrected_33 (fun r σ' h => ?_)
  obtain ⟨rfl, rfl⟩ := h
  refine r_iload_n (pc := 36) hc 5 dX1_searchCorrected_36 rfl rfl ?_
  obtain ⟨hs6, hok⟩ := hok
  refine r_callVN_i (pc := 37) (as := [.int _, .int _, .int _]) hc (c_X3_corrected l _ hs6) kk3 (o_lt hc (by decide)) rfl mV_X3_corrected kN_X1_42 ⟨Nat.le_of_ble_eq_true rfl, Nat.le_of_ble_eq_true rfl⟩ ⟨Nat.le_of_ble_eq_true rfl, Nat.le_of_ble_eq_true rfl⟩ rfl rfl (Nat.le_of_ble_eq_true rfl) dX1_searchCorrected_37 (fun r σ' h => ?_)
  obtain ⟨rfl, rfl⟩ := h
  refine r_istore (pc := 40) (lv' := [(6, _), (5, _), (4, _), (0, _), (1, _), (2, _), (3, _)]) hc dX1_searchCorrected_40 (by decide) rfl ?_
  refine r_aload_n (pc := 42) hc 3 dX1_searchCorrected_42 rfl rfl ?_
  refine r_iload (pc := 43) hc 2 dX1_searchCorrected_43 rfl ?_
  refine r_iload (pc := 45) hc 1 dX1_searchCorrected_45 rfl ?_
  refine r_iload (pc := 47) hc 0 dX1_searchCorrected_47 rfl ?_
  obtain ⟨hs7, hok⟩ := hok
  refine r_callSN_i (pc := 49) (as := [.int _, .int _, .int _]) hc (c_X5_nearestAngle l _ hs7) mS_X5_nearestAngle kN_X1_28 ⟨Nat.le_of_ble_eq_true rfl, Nat.le_of_ble_eq_true rfl⟩ ⟨Nat.le_of_ble_eq_true rfl, Nat.le_of_ble_eq_true rfl⟩ rfl rfl (Nat.le_of_ble_eq_true rfl) dX1_searchCorrected_49 (fun r σ' h => ?_)
  obtain ⟨rfl, rfl⟩ := h
  refine r_put (pc := 52) hc 1 kk1 (o_lt hc (by decide)) rfl (by decide) kF_X1_13 rfl rfl rfl rfl rfl dX1_searchCorrected_52 ?_
  refine r_aload_n (pc := 55) hc 3 dX1_searchCorrected_55 rfl rfl ?_
  refine r_aload_n (pc := 56) hc 3 dX1_searchCorrected_56 rfl rfl ?_
  refine r_geti (pc := 57) hc 1 kk1 (o_lt hc (by decide)) rfl (by decide) kF_X1_13 rfl rfl dX1_searchCorrected_57 ?_
  refine r_iload (pc := 60) hc 2 dX1_searchCorrected_60 rfl ?_
  refine r_iload (pc := 62) hc 1 dX1_searchCorrected_62 rfl ?_
  refine r_iload (pc := 64) hc 0 dX1_searchCorrected_64 rfl ?_
  obtain ⟨hs10, hok⟩ := hok
  refine r_callSN_i (pc := 66) (as := [.int _, .int _, .int _, .int _]) hc (c_X5_deviation l _ hs10) mS_X5_deviation kN_X1_45 ⟨Nat.le_of_ble_eq_true rfl, Nat.le_of_ble_eq_true rfl⟩ ⟨Nat.le_of_ble_eq_true rfl, Nat.le_of_ble_eq_true rfl⟩ rfl rfl (Nat.le_of_ble_eq_true rfl) dX1_searchCorrected_66 (fun r σ' h => ?_)
  obtain ⟨rfl, rfl⟩ := h
  refine r_put (pc := 69) hc 2 kk1 (o_lt hc (by decide)) rfl (by decide) kF_X1_16 rfl rfl rfl rfl rfl dX1_searchCorrected_69 ?_
  exact r_vret hc hr dX1_searchCorrected_72 (hq _ rfl)
noncomputable def f_X1_search (p2 : Int32) (σ : Sg) : Sg :=
  let r5 := f_X5_nearestAngle (f_X3_readingAt 0 p2 σ) (f_X3_readingAt 1 p2 σ) (f_X3_readingAt 2 p2 σ) σ
  let σ6 := pu σ 28 0 r5
  let σ9 := f_X1_searchCorrected p2 (f_X5_sectorOf (σ6 28 0) σ6) σ6
  let σ10 := pu σ9 28 3 2
  o_ite ((f_X5_sectorOf (σ10 28 1) σ10) = (f_X5_sectorOf (σ6 28 0) σ6)) (
    σ10) (
    let σ14 := f_X1_searchCorrected p2 (f_X5_sectorOf (σ10 28 1) σ10) σ10
    let σ15 := pu σ14 28 3 3
    σ15)
def ok_X1_search (p2 : Int32) (σ : Sg) : Prop :=
  (ok_X3_readingAt 0 p2 σ) ∧ ((ok_X3_readingAt 1 p2 σ) ∧ ((ok_X3_readingAt 2 p2 σ) ∧ ((ok_X5_nearestAngle (f_X3_readingAt 0 p2 σ) (f_X3_readingAt 1 p2 σ) (f_X3_readingAt 2 p2 σ) σ) ∧ (let r5 := f_X5_nearestAngle (f_X3_readingAt 0 p2 σ) (f_X3_readingAt 1 p2 σ) (f_X3_readingAt 2 p2 σ) σ
  let σ6 := pu σ 28 0 r5
  (ok_X5_sectorOf (σ6 28 0) σ6) ∧ ((ok_X1_searchCorrected p2 (f_X5_sectorOf (σ6 28 0) σ6) σ6) ∧ (let σ9 := f_X1_searchCorrected p2 (f_X5_sectorOf (σ6 28 0) σ6) σ6
  let σ10 := pu σ9 28 3 2
  (ok_X5_sectorOf (σ10 28 1) σ10) ∧ ((((f_X5_sectorOf (σ10 28 1) σ10) = (f_X5_sectorOf (σ6 28 0) σ6)) →
    True) ∧ (¬ ((f_X5_sectorOf (σ10 28 1) σ10) = (f_X5_sectorOf (σ6 28 0) σ6)) →
    (ok_X5_sectorOf (σ10 28 1) σ10) ∧ ((ok_X1_searchCorrected p2 (f_X5_sectorOf (σ10 28 1) σ10) σ10) ∧ (let σ14 := f_X1_searchCorrected p2 (f_X5_sectorOf (σ10 28 1) σ10) σ10
    let σ15 := pu σ14 28 3 3
    True))))))))))
set_option maxHeartbeats 4000000 in
set_option maxRecDepth 100000 in
theorem c_X1_search (l : Launch) (G : Gt) {p2 : Int32}  {σ : Sg} (hok : ok_X1_search p2 σ) : o_Cv l G yX1_search cX1_search 4 5 122 [.ref (gAd G 28), .ref (gAd G 1), .int p2] σ (fun σ' => σ' = f_X1_search p2 σ) := by
  refine o_Cv.of (by decide +kernel) (Nat.le_of_ble_eq_true rfl) ?_
  intro p e s m args below meth c hc hr
  have hq : ∀ q : Sg, q = f_X1_search p2 σ → (fun σ' => σ' = f_X1_search p2 σ) q := fun q h => h
  refine r_aload_n (pc := 0) hc 0 dX1_search_0 rfl rfl ?_
  refine r_aload_n (pc := 1) hc 1 dX1_search_1 rfl rfl ?_
  refine r_iconst (pc := 2) (v := 0) hc dX1_search_2 rfl ?_
  refine r_iload_n (pc := 3) hc 2 dX1_search_3 rfl rfl ?_
  obtain ⟨hs1, hok⟩ := hok
  refine r_callVN_i (pc := 4) (as := [.int _, .int _]) hc (c_X3_readingAt l _ hs1) kk3 (o_lt hc (by decide)) rfl mV_X3_readingAt kN_X1_22 ⟨Nat.le_of_ble_eq_true rfl, Nat.le_of_ble_eq_true rfl⟩ ⟨Nat.le_of_ble_eq_true rfl, Nat.le_of_ble_eq_true rfl⟩ rfl rfl (Nat.le_of_ble_eq_true rfl) dX1_search_4 (fun r σ' h => ?_)
  obtain ⟨rfl, rfl⟩ := h
  refine r_aload_n (pc := 7) hc 1 dX1_search_7 rfl rfl ?_
  refine r_iconst (pc := 8) (v := 1) hc dX1_search_8 rfl ?_
  refine r_iload_n (pc := 9) hc 2 dX1_search_9 rfl rfl ?_
  obtain ⟨hs2, hok⟩ := hok
  refine r_callVN_i (pc := 10) (as := [.int _, .int _]) hc (c_X3_readingAt l _ hs2) kk3 (o_lt hc (by decide)) rfl mV_X3_readingAt kN_X1_22 ⟨Nat.le_of_ble_eq_true rfl, Nat.le_of_ble_eq_true rfl⟩ ⟨Nat.le_of_ble_eq_true rfl, Nat.le_of_ble_eq_true rfl⟩ rfl rfl (Nat.le_of_ble_eq_true rfl) dX1_search_10 (fun r σ' h => ?_)
  obtain ⟨rfl, rfl⟩ := h
  refine r_aload_n (pc := 13) hc 1 dX1_search_13 rfl rfl ?_
  refine r_iconst (pc := 14) (v := 2) hc dX1_search_14 rfl ?_
  refine r_iload_n (pc := 15) hc 2 dX1_search_15 rfl rfl ?_
  obtain ⟨hs3, hok⟩ := hok
  refine r_callVN_i (pc := 16) (as := [.int _, .int _]) hc (c_X3_readingAt l _ hs3) kk3 (o_lt hc (by decide)) rfl mV_X3_readingAt kN_X1_22 ⟨Nat.le_of_ble_eq_true rfl, Nat.le_of_ble_eq_true rfl⟩ ⟨Nat.le_of_ble_eq_true rfl, Nat.le_of_ble_eq_true rfl⟩ rfl rfl (Nat.le_of_ble_eq_true rfl) dX1_search_16 (fun r σ' h => ?_)
  obtain ⟨rfl, rfl⟩ := h
  obtain ⟨hs4, hok⟩ := hok
  refine r_callSN_i (pc := 19) (as := [.int _, .int _, .int _]) hc (c_X5_nearestAngle l _ hs4) mS_X5_nearestAngle kN_X1_28 ⟨Nat.le_of_ble_eq_true rfl, Nat.le_of_ble_eq_true rfl⟩ ⟨Nat.le_of_ble_eq_true rfl, Nat.le_of_ble_eq_true rfl⟩ rfl rfl (Nat.le_of_ble_eq_true rfl) dX1_search_19 (fun r σ' h => ?_)
  obtain ⟨rfl, rfl⟩ := h
  refine r_put (pc := 22) hc 0 kk1 (o_lt hc (by decide)) rfl (by decide) kF_X1_7 rfl rfl rfl rfl rfl dX1_search_22 ?_
  refine r_aload_n (pc := 25) hc 0 dX1_search_25 rfl rfl ?_
  refine r_geti (pc := 26) hc 0 kk1 (o_lt hc (by decide)) rfl (by decide) kF_X1_7 rfl rfl dX1_search_26 ?_
  obtain ⟨hs7, hok⟩ := hok
  refine r_callSN_i (pc := 29) (as := [.int _]) hc (c_X5_sectorOf l _ hs7) mS_X5_sectorOf kN_X1_34 ⟨Nat.le_of_ble_eq_true rfl, Nat.le_of_ble_eq_true rfl⟩ ⟨Nat.le_of_ble_eq_true rfl, Nat.le_of_ble_eq_true rfl⟩ rfl rfl (Nat.le_of_ble_eq_true rfl) dX1_search_29 (fun r σ' h => ?_)
  obtain ⟨rfl, rfl⟩ := h
  refine r_istore_n (pc := 32) (lv' := [(3, _), (0, _), (1, _), (2, _)]) hc dX1_search_32 rfl (by decide) rfl ?_
  refine r_aload_n (pc := 33) hc 1 dX1_search_33 rfl rfl ?_
  refine r_aload_n (pc := 34) hc 2 dX1_search_34 rfl rfl ?_
  refine r_iload_n (pc := 35) hc 3 dX1_search_35 rfl rfl ?_
  refine r_iload_n (pc := 36) hc 0 dX1_search_36 rfl rfl ?_
  obtain ⟨hs8, hok⟩ := hok
  refine r_callV_v (pc := 37) (as := [.ref (gAd G _), .int _, .int _]) hc (c_X1_searchCorrected l _ hs8) kk1 (o_lt hc (by decide)) rfl mV_X1_searchCorrected kM_X1_38 ⟨Nat.le_of_ble_eq_true rfl, Nat.le_of_ble_eq_true rfl⟩ ⟨Nat.le_of_ble_eq_true rfl, Nat.le_of_ble_eq_true rfl⟩ rfl rfl (Nat.le_of_ble_eq_true rfl) dX1_search_37 (fun σ' h => ?_)
  subst h
  refine r_aload_n (pc := 40) hc 1 dX1_search_40 rfl rfl ?_
  refine r_iconst (pc := 41) (v := 2) hc dX1_search_41 rfl ?_
  refine r_put (pc := 42) hc 3 kk1 (o_lt hc (by decide)) rfl (by decide) kF_X1_19 rfl rfl rfl rfl rfl dX1_search_42 ?_
  refine r_aload_n (pc := 45) hc 1 dX1_search_45 rfl rfl ?_
  refine r_geti (pc := 46) hc 1 kk1 (o_lt hc (by decide)) rfl (by decide) kF_X1_13 rfl rfl dX1_search_46 ?_
  obtain ⟨hs11, hok⟩ := hok
  refine r_callSN_i (pc := 49) (as := [.int _]) hc (c_X5_sectorOf l _ hs11) mS_X5_sectorOf kN_X1_34 ⟨Nat.le_of_ble_eq_true rfl, Nat.le_of_ble_eq_true rfl⟩ ⟨Nat.le_of_ble_eq_true rfl, Nat.le_of_ble_eq_true rfl⟩ rfl rfl (Nat.le_of_ble_eq_true rfl) dX1_search_49 (fun r σ' h => ?_)
  obtain ⟨rfl, rfl⟩ := h
  refine r_iload_n (pc := 52) hc 0 dX1_search_52 rfl rfl ?_
  refine r_icmp_eq (pc := 53) (tgt := 74) hc dX1_search_53 (by decide) (fun c53 => ?_) (fun c53 => ?_)
  · have hok := hok.1 c53
    have hq := o_qp hq c53
    exact r_vret hc hr dX1_search_74 (hq _ rfl)
  · have hok := hok.2 c53
    have hq := o_qn hq c53
    refine r_aload_n (pc := 56) hc 1 dX1_search_56 rfl rfl ?_
    refine r_aload_n (pc := 57) hc 2 dX1_search_57 rfl rfl ?_
    refine r_iload_n (pc := 58) hc 3 dX1_search_58 rfl rfl ?_
    refine r_aload_n (pc := 59) hc 1 dX1_search_59 rfl rfl ?_
    refine r_geti (pc := 60) hc 1 kk1 (o_lt hc (by decide)) rfl (by decide) kF_X1_13 rfl rfl dX1_search_60 ?_
    obtain ⟨hs12, hok⟩ := hok
    refine r_callSN_i (pc := 63) (as := [.int _]) hc (c_X5_sectorOf l _ hs12) mS_X5_sectorOf kN_X1_34 ⟨Nat.le_of_ble_eq_true rfl, Nat.le_of_ble_eq_true rfl⟩ ⟨Nat.le_of_ble_eq_true rfl, Nat.le_of_ble_eq_true rfl⟩ rfl rfl (Nat.le_of_ble_eq_true rfl) dX1_search_63 (fun r σ' h => ?_)
    obtain ⟨rfl, rfl⟩ := h
    obtain ⟨hs13, hok⟩ := hok
    refine r_callV_v (pc := 66) (as := [.ref (gAd G _), .int _, .int _]) hc (c_X1_searchCorrected l _ hs13) kk1 (o_lt hc (by decide)) rfl mV_X1_searchCorrected kM_X1_38 ⟨Nat.le_of_ble_eq_true rfl, Nat.le_of_ble_eq_true rfl⟩ ⟨Nat.le_of_ble_eq_true rfl, Nat.le_of_ble_eq_true rfl⟩ rfl rfl (Nat.le_of_ble_eq_true rfl) dX1_search_66 (fun σ' h => ?_)
    subst h
    refine r_aload_n (pc := 69) hc 1 dX1_search_69 rfl rfl ?_
    refine r_iconst (pc := 70) (v := 3) hc dX1_search_70 rfl ?_
    refine r_put (pc := 71) hc 3 kk1 (o_lt hc (by decide)) rfl (by decide) kF_X1_19 rfl rfl rfl rfl rfl dX1_search_71 ?_
    exact r_vret hc hr dX1_search_74 (hq _ rfl)
noncomputable def f_X4_firstRefusal_147  (y0 : Int32) (σ : Sg) : Int32 × Sg :=
  let σ1 := pu σ 29 2 y0
  o_ite ((σ1 29 2) < 3) (
    o_ite ((σ1 1 5) = (-1)) (
      (0, σ1)) (
      o_ite ((f_X5_distance (σ1 1 5) (σ1 29 3) 65280 σ1) ≤ (f_X5_at 2 2 σ1)) (
        (0, σ1)) (
        (4, σ1)))) (
    (3, σ1))
def ok_X4_firstRefusal_147  (y0 : Int32) (σ : Sg) : Prop :=
  let σ1 := pu σ 29 2 y0
  (((σ1 29 2) < 3) →
    (((σ1 1 5) = (-1)) →
      True) ∧ (¬ ((σ1 1 5) = (-1)) →
      (ok_X5_distance (σ1 1 5) (σ1 29 3) 65280 σ1) ∧ ((ok_X5_at 2 2 σ1) ∧ ((((f_X5_distance (σ1 1 5) (σ1 29 3) 65280 σ1) ≤ (f_X5_at 2 2 σ1)) →
        True) ∧ (¬ ((f_X5_distance (σ1 1 5) (σ1 29 3) 65280 σ1) ≤ (f_X5_at 2 2 σ1)) →
        True))))) ∧ (¬ ((σ1 29 2) < 3) →
    True)
noncomputable def f_X4_firstRefusal_129  (y0 : Int32) (σ : Sg) : Int32 × Sg :=
  o_ite (y0 = 0) (
    f_X4_firstRefusal_147 0 σ) (
    f_X4_firstRefusal_147 ((σ 1 6) + 1) σ)
def ok_X4_firstRefusal_129  (y0 : Int32) (σ : Sg) : Prop :=
  ((y0 = 0) →
    ok_X4_firstRefusal_147 0 σ) ∧ (¬ (y0 = 0) →
    ok_X4_firstRefusal_147 ((σ 1 6) + 1) σ)
noncomputable def f_X4_firstRefusal_52  (y0 : Int32) (σ : Sg) : Int32 × Sg :=
  let σ2 := pu σ 29 1 (f_X5_remainder ((σ 1 1) + y0) 64 σ)
  let σ3 := pu σ2 29 3 ((((σ2 29 1) / 4) * 4080) + (σ2 28 1))
  let r6 := f_X5_distance (f_X3_coarse σ3) (((σ3 28 1) * 64) / 4080) 64 σ3
  o_ite (r6 ≤ (f_X5_at 2 1 σ3)) (
    f_X4_firstRefusal_129 0 σ3) (
    f_X4_firstRefusal_129 1 σ3)
def ok_X4_firstRefusal_52  (y0 : Int32) (σ : Sg) : Prop :=
  (ok_X5_remainder ((σ 1 1) + y0) 64 σ) ∧ (let σ2 := pu σ 29 1 (f_X5_remainder ((σ 1 1) + y0) 64 σ)
  let σ3 := pu σ2 29 3 ((((σ2 29 1) / 4) * 4080) + (σ2 28 1))
  (ok_X3_coarse σ3) ∧ ((ok_X5_distance (f_X3_coarse σ3) (((σ3 28 1) * 64) / 4080) 64 σ3) ∧ (let r6 := f_X5_distance (f_X3_coarse σ3) (((σ3 28 1) * 64) / 4080) 64 σ3
  (ok_X5_at 2 1 σ3) ∧ (((r6 ≤ (f_X5_at 2 1 σ3)) →
    ok_X4_firstRefusal_129 0 σ3) ∧ (¬ (r6 ≤ (f_X5_at 2 1 σ3)) →
    ok_X4_firstRefusal_129 1 σ3)))))
noncomputable def f_X4_firstRefusal  (σ : Sg) : Int32 × Sg :=
  o_ite ((σ 28 2) ≤ (f_X5_at 2 0 σ)) (
    let r3 := f_X5_remainder (((σ 28 1) / 1020) - (σ 1 1)) 4 σ
    o_ite (r3 = 2) (
      (2, σ)) (
      o_ite (r3 = 3) (
        f_X4_firstRefusal_52 (-1) σ) (
        f_X4_firstRefusal_52 r3 σ))) (
    (1, σ))
def ok_X4_firstRefusal  (σ : Sg) : Prop :=
  (ok_X5_at 2 0 σ) ∧ ((((σ 28 2) ≤ (f_X5_at 2 0 σ)) →
    (ok_X5_remainder (((σ 28 1) / 1020) - (σ 1 1)) 4 σ) ∧ (let r3 := f_X5_remainder (((σ 28 1) / 1020) - (σ 1 1)) 4 σ
    ((r3 = 2) →
      True) ∧ (¬ (r3 = 2) →
      ((r3 = 3) →
        ok_X4_firstRefusal_52 (-1) σ) ∧ (¬ (r3 = 3) →
        ok_X4_firstRefusal_52 r3 σ)))) ∧ (¬ ((σ 28 2) ≤ (f_X5_at 2 0 σ)) →
    True))
set_option maxHeartbeats 4000000 in
set_option maxRecDepth 100000 in
theorem t_X4_firstRefusal_147 {p : Program} {l : Launch} {e : Env} {s : State} {m : MethodId} {args : Array Value} {below : List Frame} {meth : Method} {c : Code} {G : Gt} {post : Int32 → Sg → Prop}   (hc : o_Cx p s m args meth c G cX4_firstRefusal yX4_firstRefusal.cls 7) (hr : meth.sig.returnType = (some .int)) {y0 : Int32} {σ : Sg} (hok : ok_X4_firstRefusal_147  y0 σ) (hq : ∀ q : Int32 × Sg, q = f_X4_firstRefusal_147  y0 σ → post q.1 q.2) : o_V p l e { frames := 3, cells := 0, slots := 0, locals := 63 } s m args below meth c (MQ below (va_Qi post (fun σ' t => o_W G σ' t.heap) (o_A G)) args s 0 0 (o_A G)) G 0 0 7 σ 147 [(0, .ref (gAd G 29)), (1, .ref (gAd G 1))] [.int y0, .ref (gAd G 29)] := by
  refine r_put (pc := 147) hc 2 kk4 (o_lt hc (by decide)) rfl (by decide) kF_X4_18 rfl rfl rfl rfl rfl dX4_firstRefusal_147 ?_
  refine r_aload_n (pc := 150) hc 0 dX4_firstRefusal_150 rfl rfl ?_
  refine r_geti (pc := 151) hc 2 kk4 (o_lt hc (by decide)) rfl (by decide) kF_X4_18 rfl rfl dX4_firstRefusal_151 ?_
  refine r_iconst (pc := 154) (v := 3) hc dX4_firstRefusal_154 rfl ?_
  refine r_icmp_lt (pc := 155) (tgt := 160) hc dX4_firstRefusal_155 (by decide) (fun c155 => ?_) (fun c155 => ?_)
  · have hok := hok.1 c155
    have hq := o_qp hq c155
    refine r_aload_n (pc := 160) hc 1 dX4_firstRefusal_160 rfl rfl ?_
    refine r_getiN (pc := 161) hc 5 kk3 (o_lt hc (by decide)) rfl (by decide) kN_X4_60 rfl rfl dX4_firstRefusal_161 ?_
    refine r_iconst (pc := 164) (v := (-1)) hc dX4_firstRefusal_164 rfl ?_
    refine r_icmp_eq (pc := 165) (tgt := 194) hc dX4_firstRefusal_165 (by decide) (fun c165 => ?_) (fun c165 => ?_)
    · have hok := hok.1 c165
      have hq := o_qp hq c165
      refine r_iconst (pc := 194) (v := 0) hc dX4_firstRefusal_194 rfl ?_
      exact r_iret hc hr rfl dX4_firstRefusal_195 (hq (_, _) rfl)
    · have hok := hok.2 c165
      have hq := o_qn hq c165
      refine r_aload_n (pc := 168) hc 1 dX4_firstRefusal_168 rfl rfl ?_
      refine r_getiN (pc := 169) hc 5 kk3 (o_lt hc (by decide)) rfl (by decide) kN_X4_60 rfl rfl dX4_firstRefusal_169 ?_
      refine r_aload_n (pc := 172) hc 0 dX4_firstRefusal_172 rfl rfl ?_
      refine r_geti (pc := 173) hc 3 kk4 (o_lt hc (by decide)) rfl (by decide) kF_X4_21 rfl rfl dX4_firstRefusal_173 ?_
      refine r_ldc (pc := 176) (v := 65280) hc kK_X4_63 dX4_firstRefusal_176 ?_
      obtain ⟨hs2, hok⟩ := hok
      refine r_callSN_i (pc := 178) (as := [.int _, .int _, .int _]) hc (c_X5_distance l _ hs2) mS_X5_distance kN_X4_56 ⟨Nat.le_of_ble_eq_true rfl, Nat.le_of_ble_eq_true rfl⟩ ⟨Nat.le_of_ble_eq_true rfl, Nat.le_of_ble_eq_true rfl⟩ rfl rfl (Nat.le_of_ble_eq_true rfl) dX4_firstRefusal_178 (fun r σ' h => ?_)
      obtain ⟨rfl, rfl⟩ := h
      refine r_aload_n (pc := 181) hc 1 dX4_firstRefusal_181 rfl rfl ?_
      refine r_getrN (pc := 182) (j := 2) hc 7 kk3 (o_lt hc (by decide)) rfl (by decide) kN_X4_37 rfl rfl dX4_firstRefusal_182 ?_
      refine r_iconst (pc := 185) (v := 2) hc dX4_firstRefusal_185 rfl ?_
      obtain ⟨hs3, hok⟩ := hok
      refine r_callSN_i (pc := 186) (as := [.ref (gAd G _), .int _]) hc (c_X5_at l _ (Or.inl ⟨by decide, rfl⟩) hs3) mS_X5_at kN_X4_41 ⟨Nat.le_of_ble_eq_true rfl, Nat.le_of_ble_eq_true rfl⟩ ⟨Nat.le_of_ble_eq_true rfl, Nat.le_of_ble_eq_true rfl⟩ rfl rfl (Nat.le_of_ble_eq_true rfl) dX4_firstRefusal_186 (fun r σ' h => ?_)
      obtain ⟨rfl, rfl⟩ := h
      refine r_icmp_le (pc := 189) (tgt := 194) hc dX4_firstRefusal_189 (by decide) (fun c189 => ?_) (fun c189 => ?_)
      · have hok := hok.1 c189
        have hq := o_qp hq c189
        refine r_iconst (pc := 194) (v := 0) hc dX4_firstRefusal_194 rfl ?_
        exact r_iret hc hr rfl dX4_firstRefusal_195 (hq (_, _) rfl)
      · have hok := hok.2 c189
        have hq := o_qn hq c189
        refine r_iconst (pc := 192) (v := 4) hc dX4_firstRefusal_192 rfl ?_
        exact r_iret hc hr rfl dX4_firstRefusal_193 (hq (_, _) rfl)
  · have hok := hok.2 c155
    have hq := o_qn hq c155
    refine r_iconst (pc := 158) (v := 3) hc dX4_firstRefusal_158 rfl ?_
    exact r_iret hc hr rfl dX4_firstRefusal_159 (hq (_, _) rfl)
set_option maxHeartbeats 4000000 in
set_option maxRecDepth 100000 in
theorem t_X4_firstRefusal_129 {p : Program} {l : Launch} {e : Env} {s : State} {m : MethodId} {args : Array Value} {below : List Frame} {meth : Method} {c : Code} {G : Gt} {post : Int32 → Sg → Prop}   (hc : o_Cx p s m args meth c G cX4_firstRefusal yX4_firstRefusal.cls 7) (hr : meth.sig.returnType = (some .int)) {y0 : Int32} {σ : Sg} (hok : ok_X4_firstRefusal_129  y0 σ) (hq : ∀ q : Int32 × Sg, q = f_X4_firstRefusal_129  y0 σ → post q.1 q.2) : o_V p l e { frames := 3, cells := 0, slots := 0, locals := 63 } s m args below meth c (MQ below (va_Qi post (fun σ' t => o_W G σ' t.heap) (o_A G)) args s 0 0 (o_A G)) G 0 0 7 σ 129 [(0, .ref (gAd G 29)), (1, .ref (gAd G 1))] [.int y0] := by
  refine r_istore (pc := 129) (lv' := [(6, _), (0, _), (1, _)]) hc dX4_firstRefusal_129 (by decide) rfl ?_
  refine r_aload_n (pc := 131) hc 1 dX4_firstRefusal_131 rfl rfl ?_
  refine r_iload (pc := 132) hc 0 dX4_firstRefusal_132 rfl ?_
  refine r_if_eq (pc := 134) (tgt := 146) hc dX4_firstRefusal_134 (by decide) (fun c134 => ?_) (fun c134 => ?_)
  · have hok := hok.1 c134
    have hq := o_qp hq c134
    refine r_iconst (pc := 146) (v := 0) hc dX4_firstRefusal_146 rfl ?_
    exact o_V.sub (t_X4_firstRefusal_147  hc hr hok hq) [1, 2] rfl
  · have hok := hok.2 c134
    have hq := o_qn hq c134
    refine r_aload_n (pc := 137) hc 2 dX4_firstRefusal_137 rfl rfl ?_
    refine r_getiN (pc := 138) hc 6 kk3 (o_lt hc (by decide)) rfl (by decide) kN_X4_27 rfl rfl dX4_firstRefusal_138 ?_
    refine r_iconst (pc := 141) (v := 1) hc dX4_firstRefusal_141 rfl ?_
    refine r_iadd (pc := 142) hc dX4_firstRefusal_142 ?_
    refine r_goto (pc := 143) (tgt := 147) hc dX4_firstRefusal_143 (by decide) ?_
    exact o_V.sub (t_X4_firstRefusal_147  hc hr hok hq) [1, 2] rfl
set_option maxHeartbeats 4000000 in
set_option maxRecDepth 100000 in
theorem t_X4_firstRefusal_52 {p : Program} {l : Launch} {e : Env} {s : State} {m : MethodId} {args : Array Value} {below : List Frame} {meth : Method} {c : Code} {G : Gt} {post : Int32 → Sg → Prop}   (hc : o_Cx p s m args meth c G cX4_firstRefusal yX4_firstRefusal.cls 7) (hr : meth.sig.returnType = (some .int)) {y0 : Int32} {σ : Sg} (hok : ok_X4_firstRefusal_52  y0 σ) (hq : ∀ q : Int32 × Sg, q = f_X4_firstRefusal_52  y0 σ → post q.1 q.2) : o_V p l e { frames := 3, cells := 0, slots := 0, locals := 63 } s m args below meth c (MQ below (va_Qi post (fun σ' t => o_W G σ' t.heap) (o_A G)) args s 0 0 (o_A G)) G 0 0 7 σ 52 [(0, .ref (gAd G 29)), (1, .ref (gAd G 1)), (2, .ref (gAd G 28))] [.int y0] := by
  refine r_istore (pc := 52) (lv' := [(4, _), (0, _), (1, _), (2, _)]) hc dX4_firstRefusal_52 (by decide) rfl ?_
  refine r_aload_n (pc := 54) hc 1 dX4_firstRefusal_54 rfl rfl ?_
  refine r_aload_n (pc := 55) hc 2 dX4_firstRefusal_55 rfl rfl ?_
  refine r_getiN (pc := 56) hc 1 kk3 (o_lt hc (by decide)) rfl (by decide) kN_X4_24 rfl rfl dX4_firstRefusal_56 ?_
  refine r_iload (pc := 59) hc 0 dX4_firstRefusal_59 rfl ?_
  refine r_iadd (pc := 61) hc dX4_firstRefusal_61 ?_
  refine r_bipush (pc := 62) (v := 64) hc dX4_firstRefusal_62 (by decide) ?_
  obtain ⟨hs1, hok⟩ := hok
  refine r_callSN_i (pc := 64) (as := [.int _, .int _]) hc (c_X5_remainder l _ hs1) mS_X5_remainder kN_X4_48 ⟨Nat.le_of_ble_eq_true rfl, Nat.le_of_ble_eq_true rfl⟩ ⟨Nat.le_of_ble_eq_true rfl, Nat.le_of_ble_eq_true rfl⟩ rfl rfl (Nat.le_of_ble_eq_true rfl) dX4_firstRefusal_64 (fun r σ' h => ?_)
  obtain ⟨rfl, rfl⟩ := h
  refine r_put (pc := 67) hc 1 kk4 (o_lt hc (by decide)) rfl (by decide) kF_X4_15 rfl rfl rfl rfl rfl dX4_firstRefusal_67 ?_
  refine r_aload_n (pc := 70) hc 1 dX4_firstRefusal_70 rfl rfl ?_
  refine r_aload_n (pc := 71) hc 1 dX4_firstRefusal_71 rfl rfl ?_
  refine r_geti (pc := 72) hc 1 kk4 (o_lt hc (by decide)) rfl (by decide) kF_X4_15 rfl rfl dX4_firstRefusal_72 ?_
  refine r_iconst (pc := 75) (v := 4) hc dX4_firstRefusal_75 rfl ?_
  refine r_idiv (pc := 76) hc dX4_firstRefusal_76 (by decide) ?_
  refine r_sipush (pc := 77) (v := 4080) hc dX4_firstRefusal_77 (by decide) ?_
  refine r_imul (pc := 80) hc dX4_firstRefusal_80 ?_
  refine r_aload_n (pc := 81) hc 3 dX4_firstRefusal_81 rfl rfl ?_
  refine r_getiN (pc := 82) hc 1 kk1 (o_lt hc (by decide)) rfl (by decide) kN_X4_45 rfl rfl dX4_firstRefusal_82 ?_
  refine r_iadd (pc := 85) hc dX4_firstRefusal_85 ?_
  refine r_put (pc := 86) hc 3 kk4 (o_lt hc (by decide)) rfl (by decide) kF_X4_21 rfl rfl rfl rfl rfl dX4_firstRefusal_86 ?_
  refine r_aload_n (pc := 89) hc 3 dX4_firstRefusal_89 rfl rfl ?_
  refine r_getiN (pc := 90) hc 1 kk1 (o_lt hc (by decide)) rfl (by decide) kN_X4_45 rfl rfl dX4_firstRefusal_90 ?_
  refine r_bipush (pc := 93) (v := 64) hc dX4_firstRefusal_93 (by decide) ?_
  refine r_imul (pc := 95) hc dX4_firstRefusal_95 ?_
  refine r_sipush (pc := 96) (v := 4080) hc dX4_firstRefusal_96 (by decide) ?_
  refine r_idiv (pc := 99) hc dX4_firstRefusal_99 (by decide) ?_
  refine r_istore (pc := 100) (lv' := [(5, _), (4, _), (0, _), (1, _), (2, _)]) hc dX4_firstRefusal_100 (by decide) rfl ?_
  refine r_aload_n (pc := 102) hc 3 dX4_firstRefusal_102 rfl rfl ?_
  obtain ⟨hs4, hok⟩ := hok
  refine r_callVN_i (pc := 103) (as := []) hc (c_X3_coarse l _ hs4) kk3 (o_lt hc (by decide)) rfl mV_X3_coarse kN_X4_52 ⟨Nat.le_of_ble_eq_true rfl, Nat.le_of_ble_eq_true rfl⟩ ⟨Nat.le_of_ble_eq_true rfl, Nat.le_of_ble_eq_true rfl⟩ rfl rfl (Nat.le_of_ble_eq_true rfl) dX4_firstRefusal_103 (fun r σ' h => ?_)
  obtain ⟨rfl, rfl⟩ := h
  refine r_iload (pc := 106) hc 0 dX4_firstRefusal_106 rfl ?_
  refine r_bipush (pc := 108) (v := 64) hc dX4_firstRefusal_108 (by decide) ?_
  obtain ⟨hs5, hok⟩ := hok
  refine r_callSN_i (pc := 110) (as := [.int _, .int _, .int _]) hc (c_X5_distance l _ hs5) mS_X5_distance kN_X4_56 ⟨Nat.le_of_ble_eq_true rfl, Nat.le_of_ble_eq_true rfl⟩ ⟨Nat.le_of_ble_eq_true rfl, Nat.le_of_ble_eq_true rfl⟩ rfl rfl (Nat.le_of_ble_eq_true rfl) dX4_firstRefusal_110 (fun r σ' h => ?_)
  obtain ⟨rfl, rfl⟩ := h
  refine r_aload_n (pc := 113) hc 3 dX4_firstRefusal_113 rfl rfl ?_
  refine r_getrN (pc := 114) (j := 2) hc 7 kk3 (o_lt hc (by decide)) rfl (by decide) kN_X4_37 rfl rfl dX4_firstRefusal_114 ?_
  refine r_iconst (pc := 117) (v := 1) hc dX4_firstRefusal_117 rfl ?_
  obtain ⟨hs7, hok⟩ := hok
  refine r_callSN_i (pc := 118) (as := [.ref (gAd G _), .int _]) hc (c_X5_at l _ (Or.inl ⟨by decide, rfl⟩) hs7) mS_X5_at kN_X4_41 ⟨Nat.le_of_ble_eq_true rfl, Nat.le_of_ble_eq_true rfl⟩ ⟨Nat.le_of_ble_eq_true rfl, Nat.le_of_ble_eq_true rfl⟩ rfl rfl (Nat.le_of_ble_eq_true rfl) dX4_firstRefusal_118 (fun r σ' h => ?_)
  obtain ⟨rfl, rfl⟩ := h
  refine r_icmp_le (pc := 121) (tgt := 128) hc dX4_firstRefusal_121 (by decide) (fun c121 => ?_) (fun c121 => ?_)
  · have hok := hok.1 c121
    have hq := o_qp hq c121
    refine r_iconst (pc := 128) (v := 0) hc dX4_firstRefusal_128 rfl ?_
    exact o_V.sub (t_X4_firstRefusal_129  hc hr hok hq) [2, 3] rfl
  · have hok := hok.2 c121
    have hq := o_qn hq c121
    refine r_iconst (pc := 124) (v := 1) hc dX4_firstRefusal_124 rfl ?_
    refine r_goto (pc := 125) (tgt := 129) hc dX4_firstRefusal_125 (by decide) ?_
    exact o_V.sub (t_X4_firstRefusal_129  hc hr hok hq) [2, 3] rfl
set_option maxHeartbeats 4000000 in
set_option maxRecDepth 100000 in
theorem c_X4_firstRefusal (l : Launch) (G : Gt)   {σ : Sg} (hok : ok_X4_firstRefusal  σ) : o_Ci l G yX4_firstRefusal cX4_firstRefusal 7 (some .int) 3 63 [.ref (gAd G 29), .ref (gAd G 1), .ref (gAd G 28)] σ (fun r σ' => r = (f_X4_firstRefusal  σ).1 ∧ σ' = (f_X4_firstRefusal  σ).2) := by
  refine o_Ci.of (by decide +kernel) (Nat.le_of_ble_eq_true rfl) ?_
  intro p e s m args below meth c hc hr
  have hq : ∀ q : Int32 × Sg, q = f_X4_firstRefusal  σ → (fun r σ' => r = (f_X4_firstRefusal  σ).1 ∧ σ' = (f_X4_firstRefusal  σ).2) q.1 q.2 := fun q h => ⟨congrArg Prod.fst h, congrArg Prod.snd h⟩
  refine r_aload_n (pc := 0) hc 2 dX4_firstRefusal_0 rfl rfl ?_
  refine r_getiN (pc := 1) hc 2 kk1 (o_lt hc (by decide)) rfl (by decide) kN_X4_32 rfl rfl dX4_firstRefusal_1 ?_
  refine r_aload_n (pc := 4) hc 1 dX4_firstRefusal_4 rfl rfl ?_
  refine r_getrN (pc := 5) (j := 2) hc 7 kk3 (o_lt hc (by decide)) rfl (by decide) kN_X4_37 rfl rfl dX4_firstRefusal_5 ?_
  refine r_iconst (pc := 8) (v := 0) hc dX4_firstRefusal_8 rfl ?_
  obtain ⟨hs1, hok⟩ := hok
  refine r_callSN_i (pc := 9) (as := [.ref (gAd G _), .int _]) hc (c_X5_at l _ (Or.inl ⟨by decide, rfl⟩) hs1) mS_X5_at kN_X4_41 ⟨Nat.le_of_ble_eq_true rfl, Nat.le_of_ble_eq_true rfl⟩ ⟨Nat.le_of_ble_eq_true rfl, Nat.le_of_ble_eq_true rfl⟩ rfl rfl (Nat.le_of_ble_eq_true rfl) dX4_firstRefusal_9 (fun r σ' h => ?_)
  obtain ⟨rfl, rfl⟩ := h
  refine r_icmp_le (pc := 12) (tgt := 17) hc dX4_firstRefusal_12 (by decide) (fun c12 => ?_) (fun c12 => ?_)
  · have hok := hok.1 c12
    have hq := o_qp hq c12
    refine r_aload_n (pc := 17) hc 2 dX4_firstRefusal_17 rfl rfl ?_
    refine r_getiN (pc := 18) hc 1 kk1 (o_lt hc (by decide)) rfl (by decide) kN_X4_45 rfl rfl dX4_firstRefusal_18 ?_
    refine r_sipush (pc := 21) (v := 1020) hc dX4_firstRefusal_21 (by decide) ?_
    refine r_idiv (pc := 24) hc dX4_firstRefusal_24 (by decide) ?_
    refine r_aload_n (pc := 25) hc 1 dX4_firstRefusal_25 rfl rfl ?_
    refine r_getiN (pc := 26) hc 1 kk3 (o_lt hc (by decide)) rfl (by decide) kN_X4_24 rfl rfl dX4_firstRefusal_26 ?_
    refine r_isub (pc := 29) hc dX4_firstRefusal_29 ?_
    refine r_iconst (pc := 30) (v := 4) hc dX4_firstRefusal_30 rfl ?_
    obtain ⟨hs2, hok⟩ := hok
    refine r_callSN_i (pc := 31) (as := [.int _, .int _]) hc (c_X5_remainder l _ hs2) mS_X5_remainder kN_X4_48 ⟨Nat.le_of_ble_eq_true rfl, Nat.le_of_ble_eq_true rfl⟩ ⟨Nat.le_of_ble_eq_true rfl, Nat.le_of_ble_eq_true rfl⟩ rfl rfl (Nat.le_of_ble_eq_true rfl) dX4_firstRefusal_31 (fun r σ' h => ?_)
    obtain ⟨rfl, rfl⟩ := h
    refine r_istore_n (pc := 34) (lv' := [(3, _), (0, _), (1, _), (2, _)]) hc dX4_firstRefusal_34 rfl (by decide) rfl ?_
    refine r_iload_n (pc := 35) hc 0 dX4_firstRefusal_35 rfl rfl ?_
    refine r_iconst (pc := 36) (v := 2) hc dX4_firstRefusal_36 rfl ?_
    refine r_icmp_ne (pc := 37) (tgt := 42) hc dX4_firstRefusal_37 (by decide) (fun c37 => ?_) (fun c37 => ?_)
    · have hok := hok.2 c37
      have hq := o_qn hq c37
      refine r_iload_n (pc := 42) hc 0 dX4_firstRefusal_42 rfl rfl ?_
      refine r_iconst (pc := 43) (v := 3) hc dX4_firstRefusal_43 rfl ?_
      refine r_icmp_ne (pc := 44) (tgt := 51) hc dX4_firstRefusal_44 (by decide) (fun c44 => ?_) (fun c44 => ?_)
      · have hok := hok.2 c44
        have hq := o_qn hq c44
        refine r_iload_n (pc := 51) hc 0 dX4_firstRefusal_51 rfl rfl ?_
        exact o_V.sub (t_X4_firstRefusal_52  hc hr hok hq) [1, 2, 3] rfl
      · have hok := hok.1 c44
        have hq := o_qp hq c44
        refine r_iconst (pc := 47) (v := (-1)) hc dX4_firstRefusal_47 rfl ?_
        refine r_goto (pc := 48) (tgt := 52) hc dX4_firstRefusal_48 (by decide) ?_
        exact o_V.sub (t_X4_firstRefusal_52  hc hr hok hq) [1, 2, 3] rfl
    · have hok := hok.1 c37
      have hq := o_qp hq c37
      refine r_iconst (pc := 40) (v := 2) hc dX4_firstRefusal_40 rfl ?_
      exact r_iret hc hr rfl dX4_firstRefusal_41 (hq (_, _) rfl)
  · have hok := hok.2 c12
    have hq := o_qn hq c12
    refine r_iconst (pc := 15) (v := 1) hc dX4_firstRefusal_15 rfl ?_
    exact r_iret hc hr rfl dX4_firstRefusal_16 (hq (_, _) rfl)
noncomputable def f_X4_judge  (σ : Sg) : Sg :=
  let σ1 := pu σ 29 1 (σ 1 1)
  let σ2 := pu σ1 29 2 (σ1 1 6)
  let q4 := f_X4_firstRefusal σ2
  let σ5 := pu q4.2 29 0 q4.1
  σ5
def ok_X4_judge  (σ : Sg) : Prop :=
  let σ1 := pu σ 29 1 (σ 1 1)
  let σ2 := pu σ1 29 2 (σ1 1 6)
  (ok_X4_firstRefusal σ2) ∧ (let q4 := f_X4_firstRefusal σ2
  let σ5 := pu q4.2 29 0 q4.1
  True)
set_option maxHeartbeats 4000000 in
set_option maxRecDepth 100000 in
theorem c_X4_judge (l : Launch) (G : Gt)   {σ : Sg} (hok : ok_X4_judge  σ) : o_Cv l G yX4_judge cX4_judge 3 4 89 [.ref (gAd G 29), .ref (gAd G 1), .ref (gAd G 28)] σ (fun σ' => σ' = f_X4_judge  σ) := by
  refine o_Cv.of (by decide +kernel) (Nat.le_of_ble_eq_true rfl) ?_
  intro p e s m args below meth c hc hr
  have hq : ∀ q : Sg, q = f_X4_judge  σ → (fun σ' => σ' = f_X4_judge  σ) q := fun q h => h
  refine r_aload_n (pc := 0) hc 0 dX4_judge_0 rfl rfl ?_
  refine r_aload_n (pc := 1) hc 1 dX4_judge_1 rfl rfl ?_
  refine r_getiN (pc := 2) hc 1 kk3 (o_lt hc (by decide)) rfl (by decide) kN_X4_24 rfl rfl dX4_judge_2 ?_
  refine r_put (pc := 5) hc 1 kk4 (o_lt hc (by decide)) rfl (by decide) kF_X4_15 rfl rfl rfl rfl rfl dX4_judge_5 ?_
  refine r_aload_n (pc := 8) hc 0 dX4_judge_8 rfl rfl ?_
  refine r_aload_n (pc := 9) hc 1 dX4_judge_9 rfl rfl ?_
  refine r_getiN (pc := 10) hc 6 kk3 (o_lt hc (by decide)) rfl (by decide) kN_X4_27 rfl rfl dX4_judge_10 ?_
  refine r_put (pc := 13) hc 2 kk4 (o_lt hc (by decide)) rfl (by decide) kF_X4_18 rfl rfl rfl rfl rfl dX4_judge_13 ?_
  refine r_aload_n (pc := 16) hc 0 dX4_judge_16 rfl rfl ?_
  refine r_aload_n (pc := 17) hc 0 dX4_judge_17 rfl rfl ?_
  refine r_aload_n (pc := 18) hc 1 dX4_judge_18 rfl rfl ?_
  refine r_aload_n (pc := 19) hc 2 dX4_judge_19 rfl rfl ?_
  obtain ⟨hs3, hok⟩ := hok
  refine r_callV_i (pc := 20) (as := [.ref (gAd G _), .ref (gAd G _)]) hc (c_X4_firstRefusal l _ hs3) kk4 (o_lt hc (by decide)) rfl mV_X4_firstRefusal kM_X4_28 ⟨Nat.le_of_ble_eq_true rfl, Nat.le_of_ble_eq_true rfl⟩ ⟨Nat.le_of_ble_eq_true rfl, Nat.le_of_ble_eq_true rfl⟩ rfl rfl (Nat.le_of_ble_eq_true rfl) dX4_judge_20 (fun r σ' h => ?_)
  obtain ⟨rfl, rfl⟩ := h
  refine r_put (pc := 23) hc 0 kk4 (o_lt hc (by decide)) rfl (by decide) kF_X4_9 rfl rfl rfl rfl rfl dX4_judge_23 ?_
  exact r_vret hc hr dX4_judge_26 (hq _ rfl)
noncomputable def f_X0_characterAt (p1 : Int32) (σ : Sg) : Int32 :=
  o_ite ((σ 30 1) ≤ p1) (
    0) (
    (f_X5_at 31 p1 σ))
def ok_X0_characterAt (p1 : Int32) (σ : Sg) : Prop :=
  (((σ 30 1) ≤ p1) →
    True) ∧ (¬ ((σ 30 1) ≤ p1) →
    (ok_X5_at 31 p1 σ) ∧ (True))
set_option maxHeartbeats 4000000 in
set_option maxRecDepth 100000 in
theorem c_X0_characterAt (l : Launch) (G : Gt) {p1 : Int32}  {σ : Sg} (hok : ok_X0_characterAt p1 σ) : o_Ci l G yX0_characterAt cX0_characterAt 2 (some .int) 1 21 [.ref (gAd G 30), .int p1] σ (fun r σ' => r = f_X0_characterAt p1 σ ∧ σ' = σ) := by
  refine o_Ci.of (by decide +kernel) (Nat.le_of_ble_eq_true rfl) ?_
  intro p e s m args below meth c hc hr
  have hq : ∀ q : Int32, q = f_X0_characterAt p1 σ → (fun r σ' => r = f_X0_characterAt p1 σ ∧ σ' = σ) q σ := fun q h => ⟨h, rfl⟩
  refine r_iload_n (pc := 0) hc 1 dX0_characterAt_0 rfl rfl ?_
  refine r_aload_n (pc := 1) hc 0 dX0_characterAt_1 rfl rfl ?_
  refine r_geti (pc := 2) hc 1 kk0 (o_lt hc (by decide)) rfl (by decide) kF_X0_15 rfl rfl dX0_characterAt_2 ?_
  refine r_icmp_ge (pc := 5) (tgt := 19) hc dX0_characterAt_5 (by decide) (fun c5 => ?_) (fun c5 => ?_)
  · have hok := hok.1 c5
    have hq := o_qp hq c5
    refine r_iconst (pc := 19) (v := 0) hc dX0_characterAt_19 rfl ?_
    exact r_iret hc hr rfl dX0_characterAt_20 (hq _ rfl)
  · have hok := hok.2 c5
    have hq := o_qn hq c5
    refine r_aload_n (pc := 8) hc 0 dX0_characterAt_8 rfl rfl ?_
    refine r_getr (pc := 9) (j := 31) hc 0 kk0 (o_lt hc (by decide)) rfl (by decide) kF_X0_9 rfl rfl dX0_characterAt_9 ?_
    refine r_iload_n (pc := 12) hc 1 dX0_characterAt_12 rfl rfl ?_
    obtain ⟨hs1, hok⟩ := hok
    refine r_callSN_i (pc := 13) (as := [.ref (gAd G _), .int _]) hc (c_X5_at l _ (Or.inl ⟨by decide, rfl⟩) hs1) mS_X5_at kN_X0_72 ⟨Nat.le_of_ble_eq_true rfl, Nat.le_of_ble_eq_true rfl⟩ ⟨Nat.le_of_ble_eq_true rfl, Nat.le_of_ble_eq_true rfl⟩ rfl rfl (Nat.le_of_ble_eq_true rfl) dX0_characterAt_13 (fun r σ' h => ?_)
    obtain ⟨rfl, rfl⟩ := h
    refine r_goto (pc := 16) (tgt := 20) hc dX0_characterAt_16 (by decide) ?_
    exact r_iret hc hr rfl dX0_characterAt_20 (hq _ rfl)
noncomputable def f_X0_digitAt (p1 : Int32) (σ : Sg) : Int32 :=
  ((f_X0_characterAt p1 σ) - 48)
def ok_X0_digitAt (p1 : Int32) (σ : Sg) : Prop :=
  (ok_X0_characterAt p1 σ) ∧ (True)
set_option maxHeartbeats 4000000 in
set_option maxRecDepth 100000 in
theorem c_X0_digitAt (l : Launch) (G : Gt) {p1 : Int32}  {σ : Sg} (hok : ok_X0_digitAt p1 σ) : o_Ci l G yX0_digitAt cX0_digitAt 2 (some .int) 2 42 [.ref (gAd G 30), .int p1] σ (fun r σ' => r = f_X0_digitAt p1 σ ∧ σ' = σ) := by
  refine o_Ci.of (by decide +kernel) (Nat.le_of_ble_eq_true rfl) ?_
  intro p e s m args below meth c hc hr
  have hq : ∀ q : Int32, q = f_X0_digitAt p1 σ → (fun r σ' => r = f_X0_digitAt p1 σ ∧ σ' = σ) q σ := fun q h => ⟨h, rfl⟩
  refine r_aload_n (pc := 0) hc 0 dX0_digitAt_0 rfl rfl ?_
  refine r_iload_n (pc := 1) hc 1 dX0_digitAt_1 rfl rfl ?_
  obtain ⟨hs1, hok⟩ := hok
  refine r_callV_i (pc := 2) (as := [.int _]) hc (c_X0_characterAt l _ hs1) kk0 (o_lt hc (by decide)) rfl mV_X0_characterAt kM_X0_76 ⟨Nat.le_of_ble_eq_true rfl, Nat.le_of_ble_eq_true rfl⟩ ⟨Nat.le_of_ble_eq_true rfl, Nat.le_of_ble_eq_true rfl⟩ rfl rfl (Nat.le_of_ble_eq_true rfl) dX0_digitAt_2 (fun r σ' h => ?_)
  obtain ⟨rfl, rfl⟩ := h
  refine r_bipush (pc := 5) (v := 48) hc dX0_digitAt_5 (by decide) ?_
  refine r_isub (pc := 7) hc dX0_digitAt_7 ?_
  exact r_iret hc hr rfl dX0_digitAt_8 (hq _ rfl)
noncomputable def f_X0_isDigit (p1 : Int32) (σ : Sg) : Int32 :=
  o_ite ((f_X5_isOutside (f_X0_characterAt p1 σ) 48 57 σ) = 0) (
    1) (
    0)
def ok_X0_isDigit (p1 : Int32) (σ : Sg) : Prop :=
  (ok_X0_characterAt p1 σ) ∧ ((ok_X5_isOutside (f_X0_characterAt p1 σ) 48 57 σ) ∧ ((((f_X5_isOutside (f_X0_characterAt p1 σ) 48 57 σ) = 0) →
    True) ∧ (¬ ((f_X5_isOutside (f_X0_characterAt p1 σ) 48 57 σ) = 0) →
    True)))
set_option maxHeartbeats 4000000 in
set_option maxRecDepth 100000 in
theorem c_X0_isDigit (l : Launch) (G : Gt) {p1 : Int32}  {σ : Sg} (hok : ok_X0_isDigit p1 σ) : o_Ci l G yX0_isDigit cX0_isDigit 2 (some .boolean) 2 42 [.ref (gAd G 30), .int p1] σ (fun r σ' => r = f_X0_isDigit p1 σ ∧ σ' = σ) := by
  refine o_Ci.of (by decide +kernel) (Nat.le_of_ble_eq_true rfl) ?_
  intro p e s m args below meth c hc hr
  have hq : ∀ q : Int32, q = f_X0_isDigit p1 σ → (fun r σ' => r = f_X0_isDigit p1 σ ∧ σ' = σ) q σ := fun q h => ⟨h, rfl⟩
  refine r_aload_n (pc := 0) hc 0 dX0_isDigit_0 rfl rfl ?_
  refine r_iload_n (pc := 1) hc 1 dX0_isDigit_1 rfl rfl ?_
  obtain ⟨hs1, hok⟩ := hok
  refine r_callV_i (pc := 2) (as := [.int _]) hc (c_X0_characterAt l _ hs1) kk0 (o_lt hc (by decide)) rfl mV_X0_characterAt kM_X0_76 ⟨Nat.le_of_ble_eq_true rfl, Nat.le_of_ble_eq_true rfl⟩ ⟨Nat.le_of_ble_eq_true rfl, Nat.le_of_ble_eq_true rfl⟩ rfl rfl (Nat.le_of_ble_eq_true rfl) dX0_isDigit_2 (fun r σ' h => ?_)
  obtain ⟨rfl, rfl⟩ := h
  refine r_bipush (pc := 5) (v := 48) hc dX0_isDigit_5 (by decide) ?_
  refine r_bipush (pc := 7) (v := 57) hc dX0_isDigit_7 (by decide) ?_
  obtain ⟨hs2, hok⟩ := hok
  refine r_callSN_i (pc := 9) (as := [.int _, .int _, .int _]) hc (c_X5_isOutside l _ hs2) mS_X5_isOutside kN_X0_85 ⟨Nat.le_of_ble_eq_true rfl, Nat.le_of_ble_eq_true rfl⟩ ⟨Nat.le_of_ble_eq_true rfl, Nat.le_of_ble_eq_true rfl⟩ rfl rfl (Nat.le_of_ble_eq_true rfl) dX0_isDigit_9 (fun r σ' h => ?_)
  obtain ⟨rfl, rfl⟩ := h
  refine r_if_ne (pc := 12) (tgt := 19) hc dX0_isDigit_12 (by decide) (fun c12 => ?_) (fun c12 => ?_)
  · have hok := hok.2 c12
    have hq := o_qn hq c12
    refine r_iconst (pc := 19) (v := 0) hc dX0_isDigit_19 rfl ?_
    exact r_iret hc hr rfl dX0_isDigit_20 (hq _ rfl)
  · have hok := hok.1 c12
    have hq := o_qp hq c12
    refine r_iconst (pc := 15) (v := 1) hc dX0_isDigit_15 rfl ?_
    refine r_goto (pc := 16) (tgt := 20) hc dX0_isDigit_16 (by decide) ?_
    exact r_iret hc hr rfl dX0_isDigit_20 (hq _ rfl)
noncomputable def f_X0_amount (p1 : Int32) (σ : Sg) : Int32 :=
  o_ite ((f_X0_isDigit (p1 + 4) σ) = 0) (
    (f_X0_digitAt (p1 + 3) σ)) (
    (((f_X0_digitAt (p1 + 3) σ) * 10) + (f_X0_digitAt (p1 + 4) σ)))
def ok_X0_amount (p1 : Int32) (σ : Sg) : Prop :=
  (ok_X0_digitAt (p1 + 3) σ) ∧ ((ok_X0_isDigit (p1 + 4) σ) ∧ ((((f_X0_isDigit (p1 + 4) σ) = 0) →
    True) ∧ (¬ ((f_X0_isDigit (p1 + 4) σ) = 0) →
    (ok_X0_digitAt (p1 + 4) σ) ∧ (True))))
set_option maxHeartbeats 4000000 in
set_option maxRecDepth 100000 in
theorem c_X0_amount (l : Launch) (G : Gt) {p1 : Int32}  {σ : Sg} (hok : ok_X0_amount p1 σ) : o_Ci l G yX0_amount cX0_amount 3 (some .int) 3 63 [.ref (gAd G 30), .int p1] σ (fun r σ' => r = f_X0_amount p1 σ ∧ σ' = σ) := by
  refine o_Ci.of (by decide +kernel) (Nat.le_of_ble_eq_true rfl) ?_
  intro p e s m args below meth c hc hr
  have hq : ∀ q : Int32, q = f_X0_amount p1 σ → (fun r σ' => r = f_X0_amount p1 σ ∧ σ' = σ) q σ := fun q h => ⟨h, rfl⟩
  refine r_aload_n (pc := 0) hc 0 dX0_amount_0 rfl rfl ?_
  refine r_iload_n (pc := 1) hc 1 dX0_amount_1 rfl rfl ?_
  refine r_iconst (pc := 2) (v := 3) hc dX0_amount_2 rfl ?_
  refine r_iadd (pc := 3) hc dX0_amount_3 ?_
  obtain ⟨hs1, hok⟩ := hok
  refine r_callV_i (pc := 4) (as := [.int _]) hc (c_X0_digitAt l _ hs1) kk0 (o_lt hc (by decide)) rfl mV_X0_digitAt kM_X0_55 ⟨Nat.le_of_ble_eq_true rfl, Nat.le_of_ble_eq_true rfl⟩ ⟨Nat.le_of_ble_eq_true rfl, Nat.le_of_ble_eq_true rfl⟩ rfl rfl (Nat.le_of_ble_eq_true rfl) dX0_amount_4 (fun r σ' h => ?_)
  obtain ⟨rfl, rfl⟩ := h
  refine r_istore_n (pc := 7) (lv' := [(2, _), (0, _), (1, _)]) hc dX0_amount_7 rfl (by decide) rfl ?_
  refine r_aload_n (pc := 8) hc 1 dX0_amount_8 rfl rfl ?_
  refine r_iload_n (pc := 9) hc 2 dX0_amount_9 rfl rfl ?_
  refine r_iconst (pc := 10) (v := 4) hc dX0_amount_10 rfl ?_
  refine r_iadd (pc := 11) hc dX0_amount_11 ?_
  obtain ⟨hs2, hok⟩ := hok
  refine r_callV_i (pc := 12) (as := [.int _]) hc (c_X0_isDigit l _ hs2) kk0 (o_lt hc (by decide)) rfl mV_X0_isDigit kM_X0_79 ⟨Nat.le_of_ble_eq_true rfl, Nat.le_of_ble_eq_true rfl⟩ ⟨Nat.le_of_ble_eq_true rfl, Nat.le_of_ble_eq_true rfl⟩ rfl rfl (Nat.le_of_ble_eq_true rfl) dX0_amount_12 (fun r σ' h => ?_)
  obtain ⟨rfl, rfl⟩ := h
  refine r_if_eq (pc := 15) (tgt := 33) hc dX0_amount_15 (by decide) (fun c15 => ?_) (fun c15 => ?_)
  · have hok := hok.1 c15
    have hq := o_qp hq c15
    refine r_iload_n (pc := 33) hc 0 dX0_amount_33 rfl rfl ?_
    exact r_iret hc hr rfl dX0_amount_34 (hq _ rfl)
  · have hok := hok.2 c15
    have hq := o_qn hq c15
    refine r_iload_n (pc := 18) hc 0 dX0_amount_18 rfl rfl ?_
    refine r_bipush (pc := 19) (v := 10) hc dX0_amount_19 (by decide) ?_
    refine r_imul (pc := 21) hc dX0_amount_21 ?_
    refine r_aload_n (pc := 22) hc 1 dX0_amount_22 rfl rfl ?_
    refine r_iload_n (pc := 23) hc 2 dX0_amount_23 rfl rfl ?_
    refine r_iconst (pc := 24) (v := 4) hc dX0_amount_24 rfl ?_
    refine r_iadd (pc := 25) hc dX0_amount_25 ?_
    obtain ⟨hs3, hok⟩ := hok
    refine r_callV_i (pc := 26) (as := [.int _]) hc (c_X0_digitAt l _ hs3) kk0 (o_lt hc (by decide)) rfl mV_X0_digitAt kM_X0_55 ⟨Nat.le_of_ble_eq_true rfl, Nat.le_of_ble_eq_true rfl⟩ ⟨Nat.le_of_ble_eq_true rfl, Nat.le_of_ble_eq_true rfl⟩ rfl rfl (Nat.le_of_ble_eq_true rfl) dX0_amount_26 (fun r σ' h => ?_)
    obtain ⟨rfl, rfl⟩ := h
    refine r_iadd (pc := 29) hc dX0_amount_29 ?_
    refine r_goto (pc := 30) (tgt := 34) hc dX0_amount_30 (by decide) ?_
    exact r_iret hc hr rfl dX0_amount_34 (hq _ rfl)
noncomputable def f_X0_entryCell (p1 : Int32) (σ : Sg) : Int32 :=
  let r4 := f_X5_cell (f_X0_digitAt p1 σ) (f_X0_digitAt (p1 + 1) σ) σ
  r4
def ok_X0_entryCell (p1 : Int32) (σ : Sg) : Prop :=
  (ok_X0_digitAt p1 σ) ∧ ((ok_X0_digitAt (p1 + 1) σ) ∧ ((ok_X5_cell (f_X0_digitAt p1 σ) (f_X0_digitAt (p1 + 1) σ) σ) ∧ (let r4 := f_X5_cell (f_X0_digitAt p1 σ) (f_X0_digitAt (p1 + 1) σ) σ
  True)))
set_option maxHeartbeats 4000000 in
set_option maxRecDepth 100000 in
theorem c_X0_entryCell (l : Launch) (G : Gt) {p1 : Int32}  {σ : Sg} (hok : ok_X0_entryCell p1 σ) : o_Ci l G yX0_entryCell cX0_entryCell 2 (some .int) 3 63 [.ref (gAd G 30), .int p1] σ (fun r σ' => r = f_X0_entryCell p1 σ ∧ σ' = σ) := by
  refine o_Ci.of (by decide +kernel) (Nat.le_of_ble_eq_true rfl) ?_
  intro p e s m args below meth c hc hr
  have hq : ∀ q : Int32, q = f_X0_entryCell p1 σ → (fun r σ' => r = f_X0_entryCell p1 σ ∧ σ' = σ) q σ := fun q h => ⟨h, rfl⟩
  refine r_aload_n (pc := 0) hc 0 dX0_entryCell_0 rfl rfl ?_
  refine r_iload_n (pc := 1) hc 1 dX0_entryCell_1 rfl rfl ?_
  obtain ⟨hs1, hok⟩ := hok
  refine r_callV_i (pc := 2) (as := [.int _]) hc (c_X0_digitAt l _ hs1) kk0 (o_lt hc (by decide)) rfl mV_X0_digitAt kM_X0_55 ⟨Nat.le_of_ble_eq_true rfl, Nat.le_of_ble_eq_true rfl⟩ ⟨Nat.le_of_ble_eq_true rfl, Nat.le_of_ble_eq_true rfl⟩ rfl rfl (Nat.le_of_ble_eq_true rfl) dX0_entryCell_2 (fun r σ' h => ?_)
  obtain ⟨rfl, rfl⟩ := h
  refine r_aload_n (pc := 5) hc 0 dX0_entryCell_5 rfl rfl ?_
  refine r_iload_n (pc := 6) hc 1 dX0_entryCell_6 rfl rfl ?_
  refine r_iconst (pc := 7) (v := 1) hc dX0_entryCell_7 rfl ?_
  refine r_iadd (pc := 8) hc dX0_entryCell_8 ?_
  obtain ⟨hs2, hok⟩ := hok
  refine r_callV_i (pc := 9) (as := [.int _]) hc (c_X0_digitAt l _ hs2) kk0 (o_lt hc (by decide)) rfl mV_X0_digitAt kM_X0_55 ⟨Nat.le_of_ble_eq_true rfl, Nat.le_of_ble_eq_true rfl⟩ ⟨Nat.le_of_ble_eq_true rfl, Nat.le_of_ble_eq_true rfl⟩ rfl rfl (Nat.le_of_ble_eq_true rfl) dX0_entryCell_9 (fun r σ' h => ?_)
  obtain ⟨rfl, rfl⟩ := h
  obtain ⟨hs3, hok⟩ := hok
  refine r_callSN_i (pc := 12) (as := [.int _, .int _]) hc (c_X5_cell l _ hs3) mS_X5_cell kN_X0_82 ⟨Nat.le_of_ble_eq_true rfl, Nat.le_of_ble_eq_true rfl⟩ ⟨Nat.le_of_ble_eq_true rfl, Nat.le_of_ble_eq_true rfl⟩ rfl rfl (Nat.le_of_ble_eq_true rfl) dX0_entryCell_12 (fun r σ' h => ?_)
  obtain ⟨rfl, rfl⟩ := h
  exact r_iret hc hr rfl dX0_entryCell_15 (hq _ rfl)
noncomputable def f_X0_entryLength_69  (x1 : Int32) (y0 : Int32) (σ : Sg) : Int32 :=
  o_ite ((f_X0_characterAt y0 σ) = 59) (
    ((y0 + 1) - x1)) (
    0)
def ok_X0_entryLength_69  (x1 : Int32) (y0 : Int32) (σ : Sg) : Prop :=
  (ok_X0_characterAt y0 σ) ∧ ((((f_X0_characterAt y0 σ) = 59) →
    True) ∧ (¬ ((f_X0_characterAt y0 σ) = 59) →
    True))
noncomputable def f_X0_entryLength_38  (x1 : Int32) (σ : Sg) : Int32 :=
  o_ite ((f_X0_isDigit (x1 + 3) σ) = 0) (
    0) (
    o_ite ((f_X0_isDigit (x1 + 4) σ) = 0) (
      f_X0_entryLength_69 x1 (x1 + 4) σ) (
      f_X0_entryLength_69 x1 (x1 + 5) σ))
def ok_X0_entryLength_38  (x1 : Int32) (σ : Sg) : Prop :=
  (ok_X0_isDigit (x1 + 3) σ) ∧ ((((f_X0_isDigit (x1 + 3) σ) = 0) →
    True) ∧ (¬ ((f_X0_isDigit (x1 + 3) σ) = 0) →
    (ok_X0_isDigit (x1 + 4) σ) ∧ ((((f_X0_isDigit (x1 + 4) σ) = 0) →
      ok_X0_entryLength_69 x1 (x1 + 4) σ) ∧ (¬ ((f_X0_isDigit (x1 + 4) σ) = 0) →
      ok_X0_entryLength_69 x1 (x1 + 5) σ))))
noncomputable def f_X0_entryLength (p1 : Int32) (σ : Sg) : Int32 :=
  o_ite ((f_X0_isDigit p1 σ) = 0) (
    0) (
    o_ite ((f_X0_isDigit (p1 + 1) σ) = 0) (
      0) (
      o_ite ((f_X0_characterAt (p1 + 2) σ) = 43) (
        f_X0_entryLength_38 p1 σ) (
        o_ite ((f_X0_characterAt (p1 + 2) σ) = 45) (
          f_X0_entryLength_38 p1 σ) (
          0))))
def ok_X0_entryLength (p1 : Int32) (σ : Sg) : Prop :=
  (ok_X0_characterAt (p1 + 2) σ) ∧ ((ok_X0_isDigit p1 σ) ∧ ((((f_X0_isDigit p1 σ) = 0) →
    True) ∧ (¬ ((f_X0_isDigit p1 σ) = 0) →
    (ok_X0_isDigit (p1 + 1) σ) ∧ ((((f_X0_isDigit (p1 + 1) σ) = 0) →
      True) ∧ (¬ ((f_X0_isDigit (p1 + 1) σ) = 0) →
      (((f_X0_characterAt (p1 + 2) σ) = 43) →
        ok_X0_entryLength_38 p1 σ) ∧ (¬ ((f_X0_characterAt (p1 + 2) σ) = 43) →
        (((f_X0_characterAt (p1 + 2) σ) = 45) →
          ok_X0_entryLength_38 p1 σ) ∧ (¬ ((f_X0_characterAt (p1 + 2) σ) = 45) →
          True)))))))
set_option maxHeartbeats 4000000 in
set_option maxRecDepth 100000 in
theorem t_X0_entryLength_69 {p : Program} {l : Launch} {e : Env} {s : State} {m : MethodId} {args : Array Value} {below : List Frame} {meth : Method} {c : Code} {G : Gt} {post : Int32 → Sg → Prop}   (hc : o_Cx p s m args meth c G cX0_entryLength yX0_entryLength.cls 4) (hr : meth.sig.returnType = (some .int)) {x1 : Int32} {y0 : Int32} {σ : Sg} (hok : ok_X0_entryLength_69  x1 y0 σ) (hq : ∀ q : Int32, q = f_X0_entryLength_69  x1 y0 σ → post q σ) : o_V p l e { frames := 3, cells := 0, slots := 0, locals := 63 } s m args below meth c (MQ below (va_Qi post (fun σ' t => o_W G σ' t.heap) (o_A G)) args s 0 0 (o_A G)) G 0 0 4 σ 69 [(0, .ref (gAd G 30)), (1, .int x1)] [.int y0] := by
  refine r_istore_n (pc := 69) (lv' := [(3, _), (0, _), (1, _)]) hc dX0_entryLength_69 rfl (by decide) rfl ?_
  refine r_aload_n (pc := 70) hc 1 dX0_entryLength_70 rfl rfl ?_
  refine r_iload_n (pc := 71) hc 0 dX0_entryLength_71 rfl rfl ?_
  obtain ⟨hs1, hok⟩ := hok
  refine r_callV_i (pc := 72) (as := [.int _]) hc (c_X0_characterAt l _ hs1) kk0 (o_lt hc (by decide)) rfl mV_X0_characterAt kM_X0_76 ⟨Nat.le_of_ble_eq_true rfl, Nat.le_of_ble_eq_true rfl⟩ ⟨Nat.le_of_ble_eq_true rfl, Nat.le_of_ble_eq_true rfl⟩ rfl rfl (Nat.le_of_ble_eq_true rfl) dX0_entryLength_72 (fun r σ' h => ?_)
  obtain ⟨rfl, rfl⟩ := h
  refine r_bipush (pc := 75) (v := 59) hc dX0_entryLength_75 (by decide) ?_
  refine r_icmp_ne (pc := 77) (tgt := 88) hc dX0_entryLength_77 (by decide) (fun c77 => ?_) (fun c77 => ?_)
  · have hok := hok.2 c77
    have hq := o_qn hq c77
    refine r_iconst (pc := 88) (v := 0) hc dX0_entryLength_88 rfl ?_
    exact r_iret hc hr rfl dX0_entryLength_89 (hq _ rfl)
  · have hok := hok.1 c77
    have hq := o_qp hq c77
    refine r_iload_n (pc := 80) hc 0 dX0_entryLength_80 rfl rfl ?_
    refine r_iconst (pc := 81) (v := 1) hc dX0_entryLength_81 rfl ?_
    refine r_iadd (pc := 82) hc dX0_entryLength_82 ?_
    refine r_iload_n (pc := 83) hc 2 dX0_entryLength_83 rfl rfl ?_
    refine r_isub (pc := 84) hc dX0_entryLength_84 ?_
    refine r_goto (pc := 85) (tgt := 89) hc dX0_entryLength_85 (by decide) ?_
    exact r_iret hc hr rfl dX0_entryLength_89 (hq _ rfl)
set_option maxHeartbeats 4000000 in
set_option maxRecDepth 100000 in
theorem t_X0_entryLength_38 {p : Program} {l : Launch} {e : Env} {s : State} {m : MethodId} {args : Array Value} {below : List Frame} {meth : Method} {c : Code} {G : Gt} {post : Int32 → Sg → Prop}   (hc : o_Cx p s m args meth c G cX0_entryLength yX0_entryLength.cls 4) (hr : meth.sig.returnType = (some .int)) {x1 : Int32} {σ : Sg} (hok : ok_X0_entryLength_38  x1 σ) (hq : ∀ q : Int32, q = f_X0_entryLength_38  x1 σ → post q σ) : o_V p l e { frames := 3, cells := 0, slots := 0, locals := 63 } s m args below meth c (MQ below (va_Qi post (fun σ' t => o_W G σ' t.heap) (o_A G)) args s 0 0 (o_A G)) G 0 0 4 σ 38 [(0, .ref (gAd G 30)), (1, .int x1)] [] := by
  refine r_aload_n (pc := 38) hc 0 dX0_entryLength_38 rfl rfl ?_
  refine r_iload_n (pc := 39) hc 1 dX0_entryLength_39 rfl rfl ?_
  refine r_iconst (pc := 40) (v := 3) hc dX0_entryLength_40 rfl ?_
  refine r_iadd (pc := 41) hc dX0_entryLength_41 ?_
  obtain ⟨hs1, hok⟩ := hok
  refine r_callV_i (pc := 42) (as := [.int _]) hc (c_X0_isDigit l _ hs1) kk0 (o_lt hc (by decide)) rfl mV_X0_isDigit kM_X0_79 ⟨Nat.le_of_ble_eq_true rfl, Nat.le_of_ble_eq_true rfl⟩ ⟨Nat.le_of_ble_eq_true rfl, Nat.le_of_ble_eq_true rfl⟩ rfl rfl (Nat.le_of_ble_eq_true rfl) dX0_entryLength_42 (fun r σ' h => ?_)
  obtain ⟨rfl, rfl⟩ := h
  refine r_if_ne (pc := 45) (tgt := 50) hc dX0_entryLength_45 (by decide) (fun c45 => ?_) (fun c45 => ?_)
  · have hok := hok.2 c45
    have hq := o_qn hq c45
    refine r_aload_n (pc := 50) hc 0 dX0_entryLength_50 rfl rfl ?_
    refine r_iload_n (pc := 51) hc 1 dX0_entryLength_51 rfl rfl ?_
    refine r_iconst (pc := 52) (v := 4) hc dX0_entryLength_52 rfl ?_
    refine r_iadd (pc := 53) hc dX0_entryLength_53 ?_
    obtain ⟨hs2, hok⟩ := hok
    refine r_callV_i (pc := 54) (as := [.int _]) hc (c_X0_isDigit l _ hs2) kk0 (o_lt hc (by decide)) rfl mV_X0_isDigit kM_X0_79 ⟨Nat.le_of_ble_eq_true rfl, Nat.le_of_ble_eq_true rfl⟩ ⟨Nat.le_of_ble_eq_true rfl, Nat.le_of_ble_eq_true rfl⟩ rfl rfl (Nat.le_of_ble_eq_true rfl) dX0_entryLength_54 (fun r σ' h => ?_)
    obtain ⟨rfl, rfl⟩ := h
    refine r_if_eq (pc := 57) (tgt := 66) hc dX0_entryLength_57 (by decide) (fun c57 => ?_) (fun c57 => ?_)
    · have hok := hok.1 c57
      have hq := o_qp hq c57
      refine r_iload_n (pc := 66) hc 1 dX0_entryLength_66 rfl rfl ?_
      refine r_iconst (pc := 67) (v := 4) hc dX0_entryLength_67 rfl ?_
      refine r_iadd (pc := 68) hc dX0_entryLength_68 ?_
      exact o_V.sub (t_X0_entryLength_69  hc hr hok hq) [0, 1] rfl
    · have hok := hok.2 c57
      have hq := o_qn hq c57
      refine r_iload_n (pc := 60) hc 1 dX0_entryLength_60 rfl rfl ?_
      refine r_iconst (pc := 61) (v := 5) hc dX0_entryLength_61 rfl ?_
      refine r_iadd (pc := 62) hc dX0_entryLength_62 ?_
      refine r_goto (pc := 63) (tgt := 69) hc dX0_entryLength_63 (by decide) ?_
      exact o_V.sub (t_X0_entryLength_69  hc hr hok hq) [0, 1] rfl
  · have hok := hok.1 c45
    have hq := o_qp hq c45
    refine r_iconst (pc := 48) (v := 0) hc dX0_entryLength_48 rfl ?_
    exact r_iret hc hr rfl dX0_entryLength_49 (hq _ rfl)
set_option maxHeartbeats 4000000 in
set_option maxRecDepth 100000 in
theorem c_X0_entryLength (l : Launch) (G : Gt) {p1 : Int32}  {σ : Sg} (hok : ok_X0_entryLength p1 σ) : o_Ci l G yX0_entryLength cX0_entryLength 4 (some .int) 3 63 [.ref (gAd G 30), .int p1] σ (fun r σ' => r = f_X0_entryLength p1 σ ∧ σ' = σ) := by
  refine o_Ci.of (by decide +kernel) (Nat.le_of_ble_eq_true rfl) ?_
  intro p e s m args below meth c hc hr
  have hq : ∀ q : Int32, q = f_X0_entryLength p1 σ → (fun r σ' => r = f_X0_entryLength p1 σ ∧ σ' = σ) q σ := fun q h => ⟨h, rfl⟩
  refine r_aload_n (pc := 0) hc 0 dX0_entryLength_0 rfl rfl ?_
  refine r_iload_n (pc := 1) hc 1 dX0_entryLength_1 rfl rfl ?_
  refine r_iconst (pc := 2) (v := 2) hc dX0_entryLength_2 rfl ?_
  refine r_iadd (pc := 3) hc dX0_entryLength_3 ?_
  obtain ⟨hs1, hok⟩ := hok
  refine r_callV_i (pc := 4) (as := [.int _]) hc (c_X0_characterAt l _ hs1) kk0 (o_lt hc (by decide)) rfl mV_X0_characterAt kM_X0_76 ⟨Nat.le_of_ble_eq_true rfl, Nat.le_of_ble_eq_true rfl⟩ ⟨Nat.le_of_ble_eq_true rfl, Nat.le_of_ble_eq_true rfl⟩ rfl rfl (Nat.le_of_ble_eq_true rfl) dX0_entryLength_4 (fun r σ' h => ?_)
  obtain ⟨rfl, rfl⟩ := h
  refine r_istore_n (pc := 7) (lv' := [(2, _), (0, _), (1, _)]) hc dX0_entryLength_7 rfl (by decide) rfl ?_
  refine r_aload_n (pc := 8) hc 1 dX0_entryLength_8 rfl rfl ?_
  refine r_iload_n (pc := 9) hc 2 dX0_entryLength_9 rfl rfl ?_
  obtain ⟨hs2, hok⟩ := hok
  refine r_callV_i (pc := 10) (as := [.int _]) hc (c_X0_isDigit l _ hs2) kk0 (o_lt hc (by decide)) rfl mV_X0_isDigit kM_X0_79 ⟨Nat.le_of_ble_eq_true rfl, Nat.le_of_ble_eq_true rfl⟩ ⟨Nat.le_of_ble_eq_true rfl, Nat.le_of_ble_eq_true rfl⟩ rfl rfl (Nat.le_of_ble_eq_true rfl) dX0_entryLength_10 (fun r σ' h => ?_)
  obtain ⟨rfl, rfl⟩ := h
  refine r_if_eq (pc := 13) (tgt := 48) hc dX0_entryLength_13 (by decide) (fun c13 => ?_) (fun c13 => ?_)
  · have hok := hok.1 c13
    have hq := o_qp hq c13
    refine r_iconst (pc := 48) (v := 0) hc dX0_entryLength_48 rfl ?_
    exact r_iret hc hr rfl dX0_entryLength_49 (hq _ rfl)
  · have hok := hok.2 c13
    have hq := o_qn hq c13
    refine r_aload_n (pc := 16) hc 1 dX0_entryLength_16 rfl rfl ?_
    refine r_iload_n (pc := 17) hc 2 dX0_entryLength_17 rfl rfl ?_
    refine r_iconst (pc := 18) (v := 1) hc dX0_entryLength_18 rfl ?_
    refine r_iadd (pc := 19) hc dX0_entryLength_19 ?_
    obtain ⟨hs3, hok⟩ := hok
    refine r_callV_i (pc := 20) (as := [.int _]) hc (c_X0_isDigit l _ hs3) kk0 (o_lt hc (by decide)) rfl mV_X0_isDigit kM_X0_79 ⟨Nat.le_of_ble_eq_true rfl, Nat.le_of_ble_eq_true rfl⟩ ⟨Nat.le_of_ble_eq_true rfl, Nat.le_of_ble_eq_true rfl⟩ rfl rfl (Nat.le_of_ble_eq_true rfl) dX0_entryLength_20 (fun r σ' h => ?_)
    obtain ⟨rfl, rfl⟩ := h
    refine r_if_eq (pc := 23) (tgt := 48) hc dX0_entryLength_23 (by decide) (fun c23 => ?_) (fun c23 => ?_)
    · have hok := hok.1 c23
      have hq := o_qp hq c23
      refine r_iconst (pc := 48) (v := 0) hc dX0_entryLength_48 rfl ?_
      exact r_iret hc hr rfl dX0_entryLength_49 (hq _ rfl)
    · have hok := hok.2 c23
      have hq := o_qn hq c23
      refine r_iload_n (pc := 26) hc 0 dX0_entryLength_26 rfl rfl ?_
      refine r_bipush (pc := 27) (v := 43) hc dX0_entryLength_27 (by decide) ?_
      refine r_icmp_eq (pc := 29) (tgt := 38) hc dX0_entryLength_29 (by decide) (fun c29 => ?_) (fun c29 => ?_)
      · have hok := hok.1 c29
        have hq := o_qp hq c29
        exact o_V.sub (t_X0_entryLength_38  hc hr hok hq) [1, 2] rfl
      · have hok := hok.2 c29
        have hq := o_qn hq c29
        refine r_iload_n (pc := 32) hc 0 dX0_entryLength_32 rfl rfl ?_
        refine r_bipush (pc := 33) (v := 45) hc dX0_entryLength_33 (by decide) ?_
        refine r_icmp_ne (pc := 35) (tgt := 48) hc dX0_entryLength_35 (by decide) (fun c35 => ?_) (fun c35 => ?_)
        · have hok := hok.2 c35
          have hq := o_qn hq c35
          refine r_iconst (pc := 48) (v := 0) hc dX0_entryLength_48 rfl ?_
          exact r_iret hc hr rfl dX0_entryLength_49 (hq _ rfl)
        · have hok := hok.1 c35
          have hq := o_qp hq c35
          exact o_V.sub (t_X0_entryLength_38  hc hr hok hq) [1, 2] rfl
noncomputable def f_X0_entryFault (p1 : Int32) (σ : Sg) : Int32 :=
  o_ite ((f_X0_entryLength p1 σ) = 0) (
    1) (
    o_ite ((f_X5_isTrack (f_X0_digitAt p1 σ) σ) = 0) (
      2) (
      let r7 := f_X5_isCell (f_X0_digitAt p1 σ) (f_X0_digitAt (p1 + 1) σ) σ
      o_ite (r7 = 0) (
        3) (
        o_ite ((f_X0_amount p1 σ) ≤ 20) (
          o_ite ((f_X5_at 33 (f_X0_entryCell p1 σ) σ) = 0) (
            0) (
            5)) (
          4))))
def ok_X0_entryFault (p1 : Int32) (σ : Sg) : Prop :=
  (ok_X0_entryLength p1 σ) ∧ ((((f_X0_entryLength p1 σ) = 0) →
    True) ∧ (¬ ((f_X0_entryLength p1 σ) = 0) →
    (ok_X0_digitAt p1 σ) ∧ ((ok_X5_isTrack (f_X0_digitAt p1 σ) σ) ∧ ((((f_X5_isTrack (f_X0_digitAt p1 σ) σ) = 0) →
      True) ∧ (¬ ((f_X5_isTrack (f_X0_digitAt p1 σ) σ) = 0) →
      (ok_X0_digitAt p1 σ) ∧ ((ok_X0_digitAt (p1 + 1) σ) ∧ ((ok_X5_isCell (f_X0_digitAt p1 σ) (f_X0_digitAt (p1 + 1) σ) σ) ∧ (let r7 := f_X5_isCell (f_X0_digitAt p1 σ) (f_X0_digitAt (p1 + 1) σ) σ
      ((r7 = 0) →
        True) ∧ (¬ (r7 = 0) →
        (ok_X0_amount p1 σ) ∧ ((((f_X0_amount p1 σ) ≤ 20) →
          (ok_X0_entryCell p1 σ) ∧ ((ok_X5_at 33 (f_X0_entryCell p1 σ) σ) ∧ ((((f_X5_at 33 (f_X0_entryCell p1 σ) σ) = 0) →
            True) ∧ (¬ ((f_X5_at 33 (f_X0_entryCell p1 σ) σ) = 0) →
            True)))) ∧ (¬ ((f_X0_amount p1 σ) ≤ 20) →
          True)))))))))))
set_option maxHeartbeats 4000000 in
set_option maxRecDepth 100000 in
theorem c_X0_entryFault (l : Launch) (G : Gt) {p1 : Int32}  {σ : Sg} (hok : ok_X0_entryFault p1 σ) : o_Ci l G yX0_entryFault cX0_entryFault 2 (some .int) 4 86 [.ref (gAd G 30), .int p1] σ (fun r σ' => r = f_X0_entryFault p1 σ ∧ σ' = σ) := by
  refine o_Ci.of (by decide +kernel) (Nat.le_of_ble_eq_true rfl) ?_
  intro p e s m args below meth c hc hr
  have hq : ∀ q : Int32, q = f_X0_entryFault p1 σ → (fun r σ' => r = f_X0_entryFault p1 σ ∧ σ' = σ) q σ := fun q h => ⟨h, rfl⟩
  refine r_aload_n (pc := 0) hc 0 dX0_entryFault_0 rfl rfl ?_
  refine r_iload_n (pc := 1) hc 1 dX0_entryFault_1 rfl rfl ?_
  obtain ⟨hs1, hok⟩ := hok
  refine r_callV_i (pc := 2) (as := [.int _]) hc (c_X0_entryLength l _ hs1) kk0 (o_lt hc (by decide)) rfl mV_X0_entryLength kM_X0_46 ⟨Nat.le_of_ble_eq_true rfl, Nat.le_of_ble_eq_true rfl⟩ ⟨Nat.le_of_ble_eq_true rfl, Nat.le_of_ble_eq_true rfl⟩ rfl rfl (Nat.le_of_ble_eq_true rfl) dX0_entryFault_2 (fun r σ' h => ?_)
  obtain ⟨rfl, rfl⟩ := h
  refine r_if_ne (pc := 5) (tgt := 10) hc dX0_entryFault_5 (by decide) (fun c5 => ?_) (fun c5 => ?_)
  · have hok := hok.2 c5
    have hq := o_qn hq c5
    refine r_aload_n (pc := 10) hc 0 dX0_entryFault_10 rfl rfl ?_
    refine r_iload_n (pc := 11) hc 1 dX0_entryFault_11 rfl rfl ?_
    obtain ⟨hs2, hok⟩ := hok
    refine r_callV_i (pc := 12) (as := [.int _]) hc (c_X0_digitAt l _ hs2) kk0 (o_lt hc (by decide)) rfl mV_X0_digitAt kM_X0_55 ⟨Nat.le_of_ble_eq_true rfl, Nat.le_of_ble_eq_true rfl⟩ ⟨Nat.le_of_ble_eq_true rfl, Nat.le_of_ble_eq_true rfl⟩ rfl rfl (Nat.le_of_ble_eq_true rfl) dX0_entryFault_12 (fun r σ' h => ?_)
    obtain ⟨rfl, rfl⟩ := h
    obtain ⟨hs3, hok⟩ := hok
    refine r_callSN_i (pc := 15) (as := [.int _]) hc (c_X5_isTrack l _ hs3) mS_X5_isTrack kN_X0_58 ⟨Nat.le_of_ble_eq_true rfl, Nat.le_of_ble_eq_true rfl⟩ ⟨Nat.le_of_ble_eq_true rfl, Nat.le_of_ble_eq_true rfl⟩ rfl rfl (Nat.le_of_ble_eq_true rfl) dX0_entryFault_15 (fun r σ' h => ?_)
    obtain ⟨rfl, rfl⟩ := h
    refine r_if_ne (pc := 18) (tgt := 23) hc dX0_entryFault_18 (by decide) (fun c18 => ?_) (fun c18 => ?_)
    · have hok := hok.2 c18
      have hq := o_qn hq c18
      refine r_aload_n (pc := 23) hc 0 dX0_entryFault_23 rfl rfl ?_
      refine r_iload_n (pc := 24) hc 1 dX0_entryFault_24 rfl rfl ?_
      obtain ⟨hs4, hok⟩ := hok
      refine r_callV_i (pc := 25) (as := [.int _]) hc (c_X0_digitAt l _ hs4) kk0 (o_lt hc (by decide)) rfl mV_X0_digitAt kM_X0_55 ⟨Nat.le_of_ble_eq_true rfl, Nat.le_of_ble_eq_true rfl⟩ ⟨Nat.le_of_ble_eq_true rfl, Nat.le_of_ble_eq_true rfl⟩ rfl rfl (Nat.le_of_ble_eq_true rfl) dX0_entryFault_25 (fun r σ' h => ?_)
      obtain ⟨rfl, rfl⟩ := h
      refine r_aload_n (pc := 28) hc 0 dX0_entryFault_28 rfl rfl ?_
      refine r_iload_n (pc := 29) hc 1 dX0_entryFault_29 rfl rfl ?_
      refine r_iconst (pc := 30) (v := 1) hc dX0_entryFault_30 rfl ?_
      refine r_iadd (pc := 31) hc dX0_entryFault_31 ?_
      obtain ⟨hs5, hok⟩ := hok
      refine r_callV_i (pc := 32) (as := [.int _]) hc (c_X0_digitAt l _ hs5) kk0 (o_lt hc (by decide)) rfl mV_X0_digitAt kM_X0_55 ⟨Nat.le_of_ble_eq_true rfl, Nat.le_of_ble_eq_true rfl⟩ ⟨Nat.le_of_ble_eq_true rfl, Nat.le_of_ble_eq_true rfl⟩ rfl rfl (Nat.le_of_ble_eq_true rfl) dX0_entryFault_32 (fun r σ' h => ?_)
      obtain ⟨rfl, rfl⟩ := h
      obtain ⟨hs6, hok⟩ := hok
      refine r_callSN_i (pc := 35) (as := [.int _, .int _]) hc (c_X5_isCell l _ hs6) mS_X5_isCell kN_X0_62 ⟨Nat.le_of_ble_eq_true rfl, Nat.le_of_ble_eq_true rfl⟩ ⟨Nat.le_of_ble_eq_true rfl, Nat.le_of_ble_eq_true rfl⟩ rfl rfl (Nat.le_of_ble_eq_true rfl) dX0_entryFault_35 (fun r σ' h => ?_)
      obtain ⟨rfl, rfl⟩ := h
      refine r_if_ne (pc := 38) (tgt := 43) hc dX0_entryFault_38 (by decide) (fun c38 => ?_) (fun c38 => ?_)
      · have hok := hok.2 c38
        have hq := o_qn hq c38
        refine r_aload_n (pc := 43) hc 0 dX0_entryFault_43 rfl rfl ?_
        refine r_iload_n (pc := 44) hc 1 dX0_entryFault_44 rfl rfl ?_
        obtain ⟨hs8, hok⟩ := hok
        refine r_callV_i (pc := 45) (as := [.int _]) hc (c_X0_amount l _ hs8) kk0 (o_lt hc (by decide)) rfl mV_X0_amount kM_X0_66 ⟨Nat.le_of_ble_eq_true rfl, Nat.le_of_ble_eq_true rfl⟩ ⟨Nat.le_of_ble_eq_true rfl, Nat.le_of_ble_eq_true rfl⟩ rfl rfl (Nat.le_of_ble_eq_true rfl) dX0_entryFault_45 (fun r σ' h => ?_)
        obtain ⟨rfl, rfl⟩ := h
        refine r_bipush (pc := 48) (v := 20) hc dX0_entryFault_48 (by decide) ?_
        refine r_icmp_le (pc := 50) (tgt := 55) hc dX0_entryFault_50 (by decide) (fun c50 => ?_) (fun c50 => ?_)
        · have hok := hok.1 c50
          have hq := o_qp hq c50
          refine r_aload_n (pc := 55) hc 0 dX0_entryFault_55 rfl rfl ?_
          refine r_getr (pc := 56) (j := 33) hc 3 kk0 (o_lt hc (by decide)) rfl (by decide) kF_X0_22 rfl rfl dX0_entryFault_56 ?_
          refine r_aload_n (pc := 59) hc 0 dX0_entryFault_59 rfl rfl ?_
          refine r_iload_n (pc := 60) hc 1 dX0_entryFault_60 rfl rfl ?_
          obtain ⟨hs9, hok⟩ := hok
          refine r_callV_i (pc := 61) (as := [.int _]) hc (c_X0_entryCell l _ hs9) kk0 (o_lt hc (by decide)) rfl mV_X0_entryCell kM_X0_69 ⟨Nat.le_of_ble_eq_true rfl, Nat.le_of_ble_eq_true rfl⟩ ⟨Nat.le_of_ble_eq_true rfl, Nat.le_of_ble_eq_true rfl⟩ rfl rfl (Nat.le_of_ble_eq_true rfl) dX0_entryFault_61 (fun r σ' h => ?_)
          obtain ⟨rfl, rfl⟩ := h
          obtain ⟨hs10, hok⟩ := hok
          refine r_callSN_i (pc := 64) (as := [.ref (gAd G _), .int _]) hc (c_X5_at l _ (Or.inl ⟨by decide, rfl⟩) hs10) mS_X5_at kN_X0_72 ⟨Nat.le_of_ble_eq_true rfl, Nat.le_of_ble_eq_true rfl⟩ ⟨Nat.le_of_ble_eq_true rfl, Nat.le_of_ble_eq_true rfl⟩ rfl rfl (Nat.le_of_ble_eq_true rfl) dX0_entryFault_64 (fun r σ' h => ?_)
          obtain ⟨rfl, rfl⟩ := h
          refine r_if_eq (pc := 67) (tgt := 74) hc dX0_entryFault_67 (by decide) (fun c67 => ?_) (fun c67 => ?_)
          · have hok := hok.1 c67
            have hq := o_qp hq c67
            refine r_iconst (pc := 74) (v := 0) hc dX0_entryFault_74 rfl ?_
            exact r_iret hc hr rfl dX0_entryFault_75 (hq _ rfl)
          · have hok := hok.2 c67
            have hq := o_qn hq c67
            refine r_iconst (pc := 70) (v := 5) hc dX0_entryFault_70 rfl ?_
            refine r_goto (pc := 71) (tgt := 75) hc dX0_entryFault_71 (by decide) ?_
            exact r_iret hc hr rfl dX0_entryFault_75 (hq _ rfl)
        · have hok := hok.2 c50
          have hq := o_qn hq c50
          refine r_iconst (pc := 53) (v := 4) hc dX0_entryFault_53 rfl ?_
          exact r_iret hc hr rfl dX0_entryFault_54 (hq _ rfl)
      · have hok := hok.1 c38
        have hq := o_qp hq c38
        refine r_iconst (pc := 41) (v := 3) hc dX0_entryFault_41 rfl ?_
        exact r_iret hc hr rfl dX0_entryFault_42 (hq _ rfl)
    · have hok := hok.1 c18
      have hq := o_qp hq c18
      refine r_iconst (pc := 21) (v := 2) hc dX0_entryFault_21 rfl ?_
      exact r_iret hc hr rfl dX0_entryFault_22 (hq _ rfl)
  · have hok := hok.1 c5
    have hq := o_qp hq c5
    refine r_iconst (pc := 8) (v := 1) hc dX0_entryFault_8 rfl ?_
    exact r_iret hc hr rfl dX0_entryFault_9 (hq _ rfl)
noncomputable def f_X0_takeEntry_33  (x1 : Int32) (y0 : Int32) (y1 : Int32) (σ : Sg) : Sg :=
  let σ2 := f_X5_put 32 y1 y0 σ
  let σ5 := f_X5_put 33 (f_X0_entryCell x1 σ2) 1 σ2
  let σ6 := pu σ5 30 4 ((σ5 30 4) + 1)
  σ6
def ok_X0_takeEntry_33  (x1 : Int32) (y0 : Int32) (y1 : Int32) (σ : Sg) : Prop :=
  (ok_X5_put 32 y1 y0 σ) ∧ (let σ2 := f_X5_put 32 y1 y0 σ
  (ok_X0_entryCell x1 σ2) ∧ ((ok_X5_put 33 (f_X0_entryCell x1 σ2) 1 σ2) ∧ (let σ5 := f_X5_put 33 (f_X0_entryCell x1 σ2) 1 σ2
  let σ6 := pu σ5 30 4 ((σ5 30 4) + 1)
  True)))
noncomputable def f_X0_takeEntry (p1 : Int32) (σ : Sg) : Sg :=
  o_ite ((f_X0_characterAt (p1 + 2) σ) = 45) (
    f_X0_takeEntry_33 p1 (-(f_X0_amount p1 σ)) (f_X0_entryCell p1 σ) σ) (
    f_X0_takeEntry_33 p1 (f_X0_amount p1 σ) (f_X0_entryCell p1 σ) σ)
def ok_X0_takeEntry (p1 : Int32) (σ : Sg) : Prop :=
  (ok_X0_amount p1 σ) ∧ ((ok_X0_entryCell p1 σ) ∧ ((ok_X0_characterAt (p1 + 2) σ) ∧ ((((f_X0_characterAt (p1 + 2) σ) = 45) →
    ok_X0_takeEntry_33 p1 (-(f_X0_amount p1 σ)) (f_X0_entryCell p1 σ) σ) ∧ (¬ ((f_X0_characterAt (p1 + 2) σ) = 45) →
    ok_X0_takeEntry_33 p1 (f_X0_amount p1 σ) (f_X0_entryCell p1 σ) σ))))
set_option maxHeartbeats 4000000 in
set_option maxRecDepth 100000 in
theorem t_X0_takeEntry_33 {p : Program} {l : Launch} {e : Env} {s : State} {m : MethodId} {args : Array Value} {below : List Frame} {meth : Method} {c : Code} {G : Gt} {post : Sg → Prop}   (hc : o_Cx p s m args meth c G cX0_takeEntry yX0_takeEntry.cls 3) (hr : meth.sig.returnType = none) {x1 : Int32} {y0 : Int32} {y1 : Int32} {σ : Sg} (hok : ok_X0_takeEntry_33  x1 y0 y1 σ) (hq : ∀ q : Sg, q = f_X0_takeEntry_33  x1 y0 y1 σ → post q) : o_V p l e { frames := 4, cells := 0, slots := 0, locals := 85 } s m args below meth c (MQ below (va_Qv post (fun σ' t => o_W G σ' t.heap) (o_A G)) args s 0 0 (o_A G)) G 0 0 3 σ 33 [(0, .ref (gAd G 30)), (1, .int x1)] [.int y0, .int y1, .ref (gAd G 32)] := by
  obtain ⟨hs1, hok⟩ := hok
  refine r_callSN_v (pc := 33) (as := [.ref (gAd G _), .int _, .int _]) hc (c_X5_put l _ ⟨(by decide), rfl⟩ hs1) mS_X5_put kN_X0_34 ⟨Nat.le_of_ble_eq_true rfl, Nat.le_of_ble_eq_true rfl⟩ ⟨Nat.le_of_ble_eq_true rfl, Nat.le_of_ble_eq_true rfl⟩ rfl rfl (Nat.le_of_ble_eq_true rfl) dX0_takeEntry_33 (fun σ' h => ?_)
  subst h
  refine r_aload_n (pc := 36) hc 0 dX0_takeEntry_36 rfl rfl ?_
  refine r_getr (pc := 37) (j := 33) hc 3 kk0 (o_lt hc (by decide)) rfl (by decide) kF_X0_22 rfl rfl dX0_takeEntry_37 ?_
  refine r_aload_n (pc := 40) hc 0 dX0_takeEntry_40 rfl rfl ?_
  refine r_iload_n (pc := 41) hc 1 dX0_takeEntry_41 rfl rfl ?_
  obtain ⟨hs3, hok⟩ := hok
  refine r_callV_i (pc := 42) (as := [.int _]) hc (c_X0_entryCell l _ hs3) kk0 (o_lt hc (by decide)) rfl mV_X0_entryCell kM_X0_69 ⟨Nat.le_of_ble_eq_true rfl, Nat.le_of_ble_eq_true rfl⟩ ⟨Nat.le_of_ble_eq_true rfl, Nat.le_of_ble_eq_true rfl⟩ rfl rfl (Nat.le_of_ble_eq_true rfl) dX0_takeEntry_42 (fun r σ' h => ?_)
  obtain ⟨rfl, rfl⟩ := h
  refine r_iconst (pc := 45) (v := 1) hc dX0_takeEntry_45 rfl ?_
  obtain ⟨hs4, hok⟩ := hok
  refine r_callSN_v (pc := 46) (as := [.ref (gAd G _), .int _, .int _]) hc (c_X5_put l _ ⟨(by decide), rfl⟩ hs4) mS_X5_put kN_X0_34 ⟨Nat.le_of_ble_eq_true rfl, Nat.le_of_ble_eq_true rfl⟩ ⟨Nat.le_of_ble_eq_true rfl, Nat.le_of_ble_eq_true rfl⟩ rfl rfl (Nat.le_of_ble_eq_true rfl) dX0_takeEntry_46 (fun σ' h => ?_)
  subst h
  refine r_aload_n (pc := 49) hc 0 dX0_takeEntry_49 rfl rfl ?_
  refine r_dup (pc := 50) hc dX0_takeEntry_50 rfl ?_
  refine r_geti (pc := 51) hc 4 kk0 (o_lt hc (by decide)) rfl (by decide) kF_X0_25 rfl rfl dX0_takeEntry_51 ?_
  refine r_iconst (pc := 54) (v := 1) hc dX0_takeEntry_54 rfl ?_
  refine r_iadd (pc := 55) hc dX0_takeEntry_55 ?_
  refine r_put (pc := 56) hc 4 kk0 (o_lt hc (by decide)) rfl (by decide) kF_X0_25 rfl rfl rfl rfl rfl dX0_takeEntry_56 ?_
  exact r_vret hc hr dX0_takeEntry_59 (hq _ rfl)
set_option maxHeartbeats 4000000 in
set_option maxRecDepth 100000 in
theorem c_X0_takeEntry (l : Launch) (G : Gt) {p1 : Int32}  {σ : Sg} (hok : ok_X0_takeEntry p1 σ) : o_Cv l G yX0_takeEntry cX0_takeEntry 3 4 85 [.ref (gAd G 30), .int p1] σ (fun σ' => σ' = f_X0_takeEntry p1 σ) := by
  refine o_Cv.of (by decide +kernel) (Nat.le_of_ble_eq_true rfl) ?_
  intro p e s m args below meth c hc hr
  have hq : ∀ q : Sg, q = f_X0_takeEntry p1 σ → (fun σ' => σ' = f_X0_takeEntry p1 σ) q := fun q h => h
  refine r_aload_n (pc := 0) hc 0 dX0_takeEntry_0 rfl rfl ?_
  refine r_iload_n (pc := 1) hc 1 dX0_takeEntry_1 rfl rfl ?_
  obtain ⟨hs1, hok⟩ := hok
  refine r_callV_i (pc := 2) (as := [.int _]) hc (c_X0_amount l _ hs1) kk0 (o_lt hc (by decide)) rfl mV_X0_amount kM_X0_66 ⟨Nat.le_of_ble_eq_true rfl, Nat.le_of_ble_eq_true rfl⟩ ⟨Nat.le_of_ble_eq_true rfl, Nat.le_of_ble_eq_true rfl⟩ rfl rfl (Nat.le_of_ble_eq_true rfl) dX0_takeEntry_2 (fun r σ' h => ?_)
  obtain ⟨rfl, rfl⟩ := h
  refine r_istore_n (pc := 5) (lv' := [(2, _), (0, _), (1, _)]) hc dX0_takeEntry_5 rfl (by decide) rfl ?_
  refine r_aload_n (pc := 6) hc 1 dX0_takeEntry_6 rfl rfl ?_
  refine r_getr (pc := 7) (j := 32) hc 2 kk0 (o_lt hc (by decide)) rfl (by decide) kF_X0_19 rfl rfl dX0_takeEntry_7 ?_
  refine r_aload_n (pc := 10) hc 1 dX0_takeEntry_10 rfl rfl ?_
  refine r_iload_n (pc := 11) hc 2 dX0_takeEntry_11 rfl rfl ?_
  obtain ⟨hs2, hok⟩ := hok
  refine r_callV_i (pc := 12) (as := [.int _]) hc (c_X0_entryCell l _ hs2) kk0 (o_lt hc (by decide)) rfl mV_X0_entryCell kM_X0_69 ⟨Nat.le_of_ble_eq_true rfl, Nat.le_of_ble_eq_true rfl⟩ ⟨Nat.le_of_ble_eq_true rfl, Nat.le_of_ble_eq_true rfl⟩ rfl rfl (Nat.le_of_ble_eq_true rfl) dX0_takeEntry_12 (fun r σ' h => ?_)
  obtain ⟨rfl, rfl⟩ := h
  refine r_aload_n (pc := 15) hc 1 dX0_takeEntry_15 rfl rfl ?_
  refine r_iload_n (pc := 16) hc 2 dX0_takeEntry_16 rfl rfl ?_
  refine r_iconst (pc := 17) (v := 2) hc dX0_takeEntry_17 rfl ?_
  refine r_iadd (pc := 18) hc dX0_takeEntry_18 ?_
  obtain ⟨hs3, hok⟩ := hok
  refine r_callV_i (pc := 19) (as := [.int _]) hc (c_X0_characterAt l _ hs3) kk0 (o_lt hc (by decide)) rfl mV_X0_characterAt kM_X0_76 ⟨Nat.le_of_ble_eq_true rfl, Nat.le_of_ble_eq_true rfl⟩ ⟨Nat.le_of_ble_eq_true rfl, Nat.le_of_ble_eq_true rfl⟩ rfl rfl (Nat.le_of_ble_eq_true rfl) dX0_takeEntry_19 (fun r σ' h => ?_)
  obtain ⟨rfl, rfl⟩ := h
  refine r_bipush (pc := 22) (v := 45) hc dX0_takeEntry_22 (by decide) ?_
  refine r_icmp_ne (pc := 24) (tgt := 32) hc dX0_takeEntry_24 (by decide) (fun c24 => ?_) (fun c24 => ?_)
  · have hok := hok.2 c24
    have hq := o_qn hq c24
    refine r_iload_n (pc := 32) hc 0 dX0_takeEntry_32 rfl rfl ?_
    exact o_V.sub (t_X0_takeEntry_33  hc hr hok hq) [1, 2] rfl
  · have hok := hok.1 c24
    have hq := o_qp hq c24
    refine r_iload_n (pc := 27) hc 0 dX0_takeEntry_27 rfl rfl ?_
    refine r_ineg (pc := 28) hc dX0_takeEntry_28 ?_
    refine r_goto (pc := 29) (tgt := 33) hc dX0_takeEntry_29 (by decide) ?_
    exact o_V.sub (t_X0_takeEntry_33  hc hr hok hq) [1, 2] rfl
noncomputable def f_X0_scan_47  : Nat → Sg → Sg
  | 0 => fun  σ => σ
  | n + 1 => fun  σ =>
    o_ite ((σ 30 1) ≤ (σ 30 5)) (
      σ) (
      o_ite ((σ 30 6) = 0) (
        let σ2 := pu σ 30 6 (f_X0_entryFault (σ 30 5) σ)
        o_ite ((σ2 30 6) = 0) (
          let σ4 := f_X0_takeEntry (σ2 30 5) σ2
          let σ6 := pu σ4 30 5 ((σ4 30 5) + (if 1 < (f_X0_entryLength (σ4 30 5) σ4) then (f_X0_entryLength (σ4 30 5) σ4) else 1))
          f_X0_scan_47 n σ6) (
          f_X0_scan_47 n σ2)) (
        σ))
def ok_X0_scan_47  : Nat → Sg → Prop
  | 0 => fun  _ => False
  | n + 1 => fun  σ =>
    (((σ 30 1) ≤ (σ 30 5)) →
      True) ∧ (¬ ((σ 30 1) ≤ (σ 30 5)) →
      (((σ 30 6) = 0) →
        (ok_X0_entryFault (σ 30 5) σ) ∧ (let σ2 := pu σ 30 6 (f_X0_entryFault (σ 30 5) σ)
        (((σ2 30 6) = 0) →
          (ok_X0_takeEntry (σ2 30 5) σ2) ∧ (let σ4 := f_X0_takeEntry (σ2 30 5) σ2
          (ok_X0_entryLength (σ4 30 5) σ4) ∧ (let σ6 := pu σ4 30 5 ((σ4 30 5) + (if 1 < (f_X0_entryLength (σ4 30 5) σ4) then (f_X0_entryLength (σ4 30 5) σ4) else 1))
          ok_X0_scan_47  n σ6))) ∧ (¬ ((σ2 30 6) = 0) →
          ok_X0_scan_47  n σ2))) ∧ (¬ ((σ 30 6) = 0) →
        True))
noncomputable def f_X0_scan_2  : Nat → Int32 → Sg → Sg
  | 0 => fun _ σ => σ
  | n + 1 => fun x1 σ =>
    o_ite (24 ≤ x1) (
      let σ1 := pu σ 30 4 0
      let σ2 := pu σ1 30 6 0
      let σ3 := pu σ2 30 5 0
      f_X0_scan_47  oF σ3) (
      let σ5 := f_X5_put 32 x1 0 σ
      let σ7 := f_X5_put 33 x1 0 σ5
      f_X0_scan_2 n (x1 + 1) σ7)
def ok_X0_scan_2  : Nat → Int32 → Sg → Prop
  | 0 => fun _ _ => False
  | n + 1 => fun x1 σ =>
    ((24 ≤ x1) →
      let σ1 := pu σ 30 4 0
      let σ2 := pu σ1 30 6 0
      let σ3 := pu σ2 30 5 0
      ok_X0_scan_47  oF σ3) ∧ (¬ (24 ≤ x1) →
      (ok_X5_put 32 x1 0 σ) ∧ (let σ5 := f_X5_put 32 x1 0 σ
      (ok_X5_put 33 x1 0 σ5) ∧ (let σ7 := f_X5_put 33 x1 0 σ5
      ok_X0_scan_2  n (x1 + 1) σ7)))
noncomputable def f_X0_scan  (σ : Sg) : Sg :=
  f_X0_scan_2  oF 0 σ
def ok_X0_scan  (σ : Sg) : Prop :=
  ok_X0_scan_2  oF 0 σ
set_option maxHeartbeats 4000000 in
set_option maxRecDepth 100000 in
theorem t_X0_scan_47 {p : Program} {l : Launch} {e : Env} {s : State} {m : MethodId} {args : Array Value} {below : List Frame} {meth : Method} {c : Code} {G : Gt} {post : Sg → Prop}   (hc : o_Cx p s m args meth c G cX0_scan yX0_scan.cls 2) (hr : meth.sig.returnType = none) : ∀ (n : Nat)  (σ : Sg) (hok : ok_X0_scan_47  n  σ) (hq : ∀ q : Sg, q = f_X0_scan_47  n  σ → post q), o_V p l e { frames := 5, cells := 0, slots := 0, locals := 107 } s m args below meth c (MQ below (va_Qv post (fun σ' t => o_W G σ' t.heap) (o_A G)) args s 0 0 (o_A G)) G 0 0 2 σ 47 [(0, .ref (gAd G 30))] [] := by
  intro n
  induction n with
  | zero =>
    intro  σ hok hq
    exact hok.elim
  | succ n ih =>
    intro  σ hok hq
    refine r_aload_n (pc := 47) hc 0 dX0_scan_47 rfl rfl ?_
    refine r_geti (pc := 48) hc 5 kk0 (o_lt hc (by decide)) rfl (by decide) kF_X0_28 rfl rfl dX0_scan_48 ?_
    refine r_aload_n (pc := 51) hc 0 dX0_scan_51 rfl rfl ?_
    refine r_geti (pc := 52) hc 1 kk0 (o_lt hc (by decide)) rfl (by decide) kF_X0_15 rfl rfl dX0_scan_52 ?_
    refine r_icmp_ge (pc := 55) (tgt := 116) hc dX0_scan_55 (by decide) (fun c55 => ?_) (fun c55 => ?_)
    · have hok := hok.1 c55
      have hq := o_qp hq c55
      exact r_vret hc hr dX0_scan_116 (hq _ rfl)
    · have hok := hok.2 c55
      have hq := o_qn hq c55
      refine r_aload_n (pc := 58) hc 0 dX0_scan_58 rfl rfl ?_
      refine r_geti (pc := 59) hc 6 kk0 (o_lt hc (by decide)) rfl (by decide) kF_X0_31 rfl rfl dX0_scan_59 ?_
      refine r_if_ne (pc := 62) (tgt := 116) hc dX0_scan_62 (by decide) (fun c62 => ?_) (fun c62 => ?_)
      · have hok := hok.2 c62
        have hq := o_qn hq c62
        exact r_vret hc hr dX0_scan_116 (hq _ rfl)
      · have hok := hok.1 c62
        have hq := o_qp hq c62
        refine r_aload_n (pc := 65) hc 0 dX0_scan_65 rfl rfl ?_
        refine r_aload_n (pc := 66) hc 0 dX0_scan_66 rfl rfl ?_
        refine r_aload_n (pc := 67) hc 0 dX0_scan_67 rfl rfl ?_
        refine r_geti (pc := 68) hc 5 kk0 (o_lt hc (by decide)) rfl (by decide) kF_X0_28 rfl rfl dX0_scan_68 ?_
        obtain ⟨hs1, hok⟩ := hok
        refine r_callV_i (pc := 71) (as := [.int _]) hc (c_X0_entryFault l _ hs1) kk0 (o_lt hc (by decide)) rfl mV_X0_entryFault kM_X0_38 ⟨Nat.le_of_ble_eq_true rfl, Nat.le_of_ble_eq_true rfl⟩ ⟨Nat.le_of_ble_eq_true rfl, Nat.le_of_ble_eq_true rfl⟩ rfl rfl (Nat.le_of_ble_eq_true rfl) dX0_scan_71 (fun r σ' h => ?_)
        obtain ⟨rfl, rfl⟩ := h
        refine r_put (pc := 74) hc 6 kk0 (o_lt hc (by decide)) rfl (by decide) kF_X0_31 rfl rfl rfl rfl rfl dX0_scan_74 ?_
        refine r_aload_n (pc := 77) hc 0 dX0_scan_77 rfl rfl ?_
        refine r_geti (pc := 78) hc 6 kk0 (o_lt hc (by decide)) rfl (by decide) kF_X0_31 rfl rfl dX0_scan_78 ?_
        refine r_if_ne (pc := 81) (tgt := 47) hc dX0_scan_81 (by decide) (fun c81 => ?_) (fun c81 => ?_)
        · have hok := hok.2 c81
          have hq := o_qn hq c81
          exact o_V.sub (ih  _ hok hq) [0] rfl
        · have hok := hok.1 c81
          have hq := o_qp hq c81
          refine r_aload_n (pc := 84) hc 0 dX0_scan_84 rfl rfl ?_
          refine r_aload_n (pc := 85) hc 0 dX0_scan_85 rfl rfl ?_
          refine r_geti (pc := 86) hc 5 kk0 (o_lt hc (by decide)) rfl (by decide) kF_X0_28 rfl rfl dX0_scan_86 ?_
          obtain ⟨hs3, hok⟩ := hok
          refine r_callV_v (pc := 89) (as := [.int _]) hc (c_X0_takeEntry l _ hs3) kk0 (o_lt hc (by decide)) rfl mV_X0_takeEntry kM_X0_42 ⟨Nat.le_of_ble_eq_true rfl, Nat.le_of_ble_eq_true rfl⟩ ⟨Nat.le_of_ble_eq_true rfl, Nat.le_of_ble_eq_true rfl⟩ rfl rfl (Nat.le_of_ble_eq_true rfl) dX0_scan_89 (fun σ' h => ?_)
          subst h
          refine r_aload_n (pc := 92) hc 0 dX0_scan_92 rfl rfl ?_
          refine r_dup (pc := 93) hc dX0_scan_93 rfl ?_
          refine r_geti (pc := 94) hc 5 kk0 (o_lt hc (by decide)) rfl (by decide) kF_X0_28 rfl rfl dX0_scan_94 ?_
          refine r_iconst (pc := 97) (v := 1) hc dX0_scan_97 rfl ?_
          refine r_aload_n (pc := 98) hc 0 dX0_scan_98 rfl rfl ?_
          refine r_aload_n (pc := 99) hc 0 dX0_scan_99 rfl rfl ?_
          refine r_geti (pc := 100) hc 5 kk0 (o_lt hc (by decide)) rfl (by decide) kF_X0_28 rfl rfl dX0_scan_100 ?_
          obtain ⟨hs5, hok⟩ := hok
          refine r_callV_i (pc := 103) (as := [.int _]) hc (c_X0_entryLength l _ hs5) kk0 (o_lt hc (by decide)) rfl mV_X0_entryLength kM_X0_46 ⟨Nat.le_of_ble_eq_true rfl, Nat.le_of_ble_eq_true rfl⟩ ⟨Nat.le_of_ble_eq_true rfl, Nat.le_of_ble_eq_true rfl⟩ rfl rfl (Nat.le_of_ble_eq_true rfl) dX0_scan_103 (fun r σ' h => ?_)
          obtain ⟨rfl, rfl⟩ := h
          refine r_max (pc := 106) hc kM_X0_49 (Nat.le_of_ble_eq_true rfl) (Nat.le_of_ble_eq_true rfl) ⟨Nat.le_of_ble_eq_true rfl, Nat.le_of_ble_eq_true rfl⟩ dX0_scan_106 ?_
          refine r_iadd (pc := 109) hc dX0_scan_109 ?_
          refine r_put (pc := 110) hc 5 kk0 (o_lt hc (by decide)) rfl (by decide) kF_X0_28 rfl rfl rfl rfl rfl dX0_scan_110 ?_
          refine r_goto (pc := 113) (tgt := 47) hc dX0_scan_113 (by decide) ?_
          exact o_V.sub (ih  _ hok hq) [0] rfl
set_option maxHeartbeats 4000000 in
set_option maxRecDepth 100000 in
theorem t_X0_scan_2 {p : Program} {l : Launch} {e : Env} {s : State} {m : MethodId} {args : Array Value} {below : List Frame} {meth : Method} {c : Code} {G : Gt} {post : Sg → Prop}   (hc : o_Cx p s m args meth c G cX0_scan yX0_scan.cls 2) (hr : meth.sig.returnType = none) : ∀ (n : Nat) (x1 : Int32) (σ : Sg) (hok : ok_X0_scan_2  n x1 σ) (hq : ∀ q : Sg, q = f_X0_scan_2  n x1 σ → post q), o_V p l e { frames := 5, cells := 0, slots := 0, locals := 107 } s m args below meth c (MQ below (va_Qv post (fun σ' t => o_W G σ' t.heap) (o_A G)) args s 0 0 (o_A G)) G 0 0 2 σ 2 [(0, .ref (gAd G 30)), (1, .int x1)] [] := by
  intro n
  induction n with
  | zero =>
    intro x1 σ hok hq
    exact hok.elim
  | succ n ih =>
    intro x1 σ hok hq
    refine r_iload_n (pc := 2) hc 1 dX0_scan_2 rfl rfl ?_
    refine r_bipush (pc := 3) (v := 24) hc dX0_scan_3 (by decide) ?_
    refine r_icmp_ge (pc := 5) (tgt := 32) hc dX0_scan_5 (by decide) (fun c5 => ?_) (fun c5 => ?_)
    · have hok := hok.1 c5
      have hq := o_qp hq c5
      refine r_aload_n (pc := 32) hc 0 dX0_scan_32 rfl rfl ?_
      refine r_iconst (pc := 33) (v := 0) hc dX0_scan_33 rfl ?_
      refine r_put (pc := 34) hc 4 kk0 (o_lt hc (by decide)) rfl (by decide) kF_X0_25 rfl rfl rfl rfl rfl dX0_scan_34 ?_
      refine r_aload_n (pc := 37) hc 0 dX0_scan_37 rfl rfl ?_
      refine r_iconst (pc := 38) (v := 0) hc dX0_scan_38 rfl ?_
      refine r_put (pc := 39) hc 6 kk0 (o_lt hc (by decide)) rfl (by decide) kF_X0_31 rfl rfl rfl rfl rfl dX0_scan_39 ?_
      refine r_aload_n (pc := 42) hc 0 dX0_scan_42 rfl rfl ?_
      refine r_iconst (pc := 43) (v := 0) hc dX0_scan_43 rfl ?_
      refine r_put (pc := 44) hc 5 kk0 (o_lt hc (by decide)) rfl (by decide) kF_X0_28 rfl rfl rfl rfl rfl dX0_scan_44 ?_
      exact o_V.sub (t_X0_scan_47  hc hr oF  _ hok hq) [0] rfl
    · have hok := hok.2 c5
      have hq := o_qn hq c5
      refine r_aload_n (pc := 8) hc 0 dX0_scan_8 rfl rfl ?_
      refine r_getr (pc := 9) (j := 32) hc 2 kk0 (o_lt hc (by decide)) rfl (by decide) kF_X0_19 rfl rfl dX0_scan_9 ?_
      refine r_iload_n (pc := 12) hc 1 dX0_scan_12 rfl rfl ?_
      refine r_iconst (pc := 13) (v := 0) hc dX0_scan_13 rfl ?_
      obtain ⟨hs4, hok⟩ := hok
      refine r_callSN_v (pc := 14) (as := [.ref (gAd G _), .int _, .int _]) hc (c_X5_put l _ ⟨(by decide), rfl⟩ hs4) mS_X5_put kN_X0_34 ⟨Nat.le_of_ble_eq_true rfl, Nat.le_of_ble_eq_true rfl⟩ ⟨Nat.le_of_ble_eq_true rfl, Nat.le_of_ble_eq_true rfl⟩ rfl rfl (Nat.le_of_ble_eq_true rfl) dX0_scan_14 (fun σ' h => ?_)
      subst h
      refine r_aload_n (pc := 17) hc 0 dX0_scan_17 rfl rfl ?_
      refine r_getr (pc := 18) (j := 33) hc 3 kk0 (o_lt hc (by decide)) rfl (by decide) kF_X0_22 rfl rfl dX0_scan_18 ?_
      refine r_iload_n (pc := 21) hc 1 dX0_scan_21 rfl rfl ?_
      refine r_iconst (pc := 22) (v := 0) hc dX0_scan_22 rfl ?_
      obtain ⟨hs6, hok⟩ := hok
      refine r_callSN_v (pc := 23) (as := [.ref (gAd G _), .int _, .int _]) hc (c_X5_put l _ ⟨(by decide), rfl⟩ hs6) mS_X5_put kN_X0_34 ⟨Nat.le_of_ble_eq_true rfl, Nat.le_of_ble_eq_true rfl⟩ ⟨Nat.le_of_ble_eq_true rfl, Nat.le_of_ble_eq_true rfl⟩ rfl rfl (Nat.le_of_ble_eq_true rfl) dX0_scan_23 (fun σ' h => ?_)
      subst h
      refine r_iinc (pc := 26) (q := 1) (v := _ + 1) (lv' := [(1, _), (0, _)]) hc dX0_scan_26 rfl rfl (by decide) rfl ?_
      refine r_goto (pc := 29) (tgt := 2) hc dX0_scan_29 (by decide) ?_
      exact o_V.sub (ih _ _ hok hq) [1, 0] rfl
set_option maxHeartbeats 4000000 in
set_option maxRecDepth 100000 in
theorem c_X0_scan (l : Launch) (G : Gt)   {σ : Sg} (hok : ok_X0_scan  σ) : o_Cv l G yX0_scan cX0_scan 2 5 107 [.ref (gAd G 30)] σ (fun σ' => σ' = f_X0_scan  σ) := by
  refine o_Cv.of (by decide +kernel) (Nat.le_of_ble_eq_true rfl) ?_
  intro p e s m args below meth c hc hr
  have hq : ∀ q : Sg, q = f_X0_scan  σ → (fun σ' => σ' = f_X0_scan  σ) q := fun q h => h
  refine r_iconst (pc := 0) (v := 0) hc dX0_scan_0 rfl ?_
  refine r_istore_n (pc := 1) (lv' := [(1, _), (0, _)]) hc dX0_scan_1 rfl (by decide) rfl ?_
  exact o_V.sub (t_X0_scan_2  hc hr oF _ _ hok hq) [1, 0] rfl
noncomputable def f_X0_append (p1 : Int32) (σ : Sg) : Sg :=
  let σ2 := f_X5_put 31 (σ 30 1) p1 σ
  let σ3 := pu σ2 30 1 ((σ2 30 1) + 1)
  σ3
def ok_X0_append (p1 : Int32) (σ : Sg) : Prop :=
  (ok_X5_put 31 (σ 30 1) p1 σ) ∧ (let σ2 := f_X5_put 31 (σ 30 1) p1 σ
  let σ3 := pu σ2 30 1 ((σ2 30 1) + 1)
  True)
set_option maxHeartbeats 4000000 in
set_option maxRecDepth 100000 in
theorem c_X0_append (l : Launch) (G : Gt) {p1 : Int32}  {σ : Sg} (hok : ok_X0_append p1 σ) : o_Cv l G yX0_append cX0_append 2 1 22 [.ref (gAd G 30), .int p1] σ (fun σ' => σ' = f_X0_append p1 σ) := by
  refine o_Cv.of (by decide +kernel) (Nat.le_of_ble_eq_true rfl) ?_
  intro p e s m args below meth c hc hr
  have hq : ∀ q : Sg, q = f_X0_append p1 σ → (fun σ' => σ' = f_X0_append p1 σ) q := fun q h => h
  refine r_aload_n (pc := 0) hc 0 dX0_append_0 rfl rfl ?_
  refine r_getr (pc := 1) (j := 31) hc 0 kk0 (o_lt hc (by decide)) rfl (by decide) kF_X0_9 rfl rfl dX0_append_1 ?_
  refine r_aload_n (pc := 4) hc 0 dX0_append_4 rfl rfl ?_
  refine r_geti (pc := 5) hc 1 kk0 (o_lt hc (by decide)) rfl (by decide) kF_X0_15 rfl rfl dX0_append_5 ?_
  refine r_iload_n (pc := 8) hc 1 dX0_append_8 rfl rfl ?_
  obtain ⟨hs1, hok⟩ := hok
  refine r_callSN_v (pc := 9) (as := [.ref (gAd G _), .int _, .int _]) hc (c_X5_put l _ ⟨(by decide), rfl⟩ hs1) mS_X5_put kN_X0_34 ⟨Nat.le_of_ble_eq_true rfl, Nat.le_of_ble_eq_true rfl⟩ ⟨Nat.le_of_ble_eq_true rfl, Nat.le_of_ble_eq_true rfl⟩ rfl rfl (Nat.le_of_ble_eq_true rfl) dX0_append_9 (fun σ' h => ?_)
  subst h
  refine r_aload_n (pc := 12) hc 0 dX0_append_12 rfl rfl ?_
  refine r_dup (pc := 13) hc dX0_append_13 rfl ?_
  refine r_geti (pc := 14) hc 1 kk0 (o_lt hc (by decide)) rfl (by decide) kF_X0_15 rfl rfl dX0_append_14 ?_
  refine r_iconst (pc := 17) (v := 1) hc dX0_append_17 rfl ?_
  refine r_iadd (pc := 18) hc dX0_append_18 ?_
  refine r_put (pc := 19) hc 1 kk0 (o_lt hc (by decide)) rfl (by decide) kF_X0_15 rfl rfl rfl rfl rfl dX0_append_19 ?_
  exact r_vret hc hr dX0_append_22 (hq _ rfl)
noncomputable def f_X2_restoreLatest  (σ : Sg) : Sg :=
  let σ4 := f_X3_copyFrom 1 (f_X2_slot ((σ 6 2) - 1) σ) σ
  let σ5 := pu σ4 6 2 ((σ4 6 2) - 1)
  σ5
def ok_X2_restoreLatest  (σ : Sg) : Prop :=
  (ok_X2_slot ((σ 6 2) - 1) σ) ∧ ((o_st (f_X2_slot ((σ 6 2) - 1) σ)) ∧ ((ok_X3_copyFrom 1 (f_X2_slot ((σ 6 2) - 1) σ) σ) ∧ (let σ4 := f_X3_copyFrom 1 (f_X2_slot ((σ 6 2) - 1) σ) σ
  let σ5 := pu σ4 6 2 ((σ4 6 2) - 1)
  True)))
set_option maxHeartbeats 4000000 in
set_option maxRecDepth 100000 in
theorem c_X2_restoreLatest (l : Launch) (G : Gt)   {σ : Sg} (hok : ok_X2_restoreLatest  σ) : o_Cv l G yX2_restoreLatest cX2_restoreLatest 3 2 44 [.ref (gAd G 6), .ref (gAd G 1)] σ (fun σ' => σ' = f_X2_restoreLatest  σ) := by
  refine o_Cv.of (by decide +kernel) (Nat.le_of_ble_eq_true rfl) ?_
  intro p e s m args below meth c hc hr
  have hq : ∀ q : Sg, q = f_X2_restoreLatest  σ → (fun σ' => σ' = f_X2_restoreLatest  σ) q := fun q h => h
  refine r_aload_n (pc := 0) hc 0 dX2_restoreLatest_0 rfl rfl ?_
  refine r_aload_n (pc := 1) hc 0 dX2_restoreLatest_1 rfl rfl ?_
  refine r_geti (pc := 2) hc 2 kk2 (o_lt hc (by decide)) rfl (by decide) kF_X2_22 rfl rfl dX2_restoreLatest_2 ?_
  refine r_iconst (pc := 5) (v := 1) hc dX2_restoreLatest_5 rfl ?_
  refine r_isub (pc := 6) hc dX2_restoreLatest_6 ?_
  obtain ⟨hs1, hok⟩ := hok
  refine r_callV_r (pc := 7) (as := [.int _]) hc (c_X2_slot l _ hs1) kk2 (o_lt hc (by decide)) rfl mV_X2_slot kM_X2_29 ⟨Nat.le_of_ble_eq_true rfl, Nat.le_of_ble_eq_true rfl⟩ ⟨Nat.le_of_ble_eq_true rfl, Nat.le_of_ble_eq_true rfl⟩ rfl rfl (Nat.le_of_ble_eq_true rfl) dX2_restoreLatest_7 (fun b h => ?_)
  subst h
  refine r_astore_n (pc := 10) (lv' := [(2, _), (0, _), (1, _)]) hc dX2_restoreLatest_10 rfl (by decide) rfl ?_
  refine r_aload_n (pc := 11) hc 0 dX2_restoreLatest_11 rfl rfl ?_
  refine r_ifnull (pc := 12) hc dX2_restoreLatest_12 ?_
  refine r_aload_n (pc := 15) hc 2 dX2_restoreLatest_15 rfl rfl ?_
  refine r_aload_n (pc := 16) hc 0 dX2_restoreLatest_16 rfl rfl ?_
  obtain ⟨hs2, hok⟩ := hok
  obtain ⟨hs3, hok⟩ := hok
  refine r_callVN_v (pc := 17) (as := [.ref (gAd G _)]) hc (c_X3_copyFrom l _ (Or.inl rfl) hs2 hs3) kk3 (o_lt hc (by decide)) rfl mV_X3_copyFrom kN_X2_33 ⟨Nat.le_of_ble_eq_true rfl, Nat.le_of_ble_eq_true rfl⟩ ⟨Nat.le_of_ble_eq_true rfl, Nat.le_of_ble_eq_true rfl⟩ rfl rfl (Nat.le_of_ble_eq_true rfl) dX2_restoreLatest_17 (fun σ' h => ?_)
  subst h
  refine r_aload_n (pc := 20) hc 1 dX2_restoreLatest_20 rfl rfl ?_
  refine r_dup (pc := 21) hc dX2_restoreLatest_21 rfl ?_
  refine r_geti (pc := 22) hc 2 kk2 (o_lt hc (by decide)) rfl (by decide) kF_X2_22 rfl rfl dX2_restoreLatest_22 ?_
  refine r_iconst (pc := 25) (v := 1) hc dX2_restoreLatest_25 rfl ?_
  refine r_isub (pc := 26) hc dX2_restoreLatest_26 ?_
  refine r_put (pc := 27) hc 2 kk2 (o_lt hc (by decide)) rfl (by decide) kF_X2_22 rfl rfl rfl rfl rfl dX2_restoreLatest_27 ?_
  exact r_vret hc hr dX2_restoreLatest_30 (hq _ rfl)
