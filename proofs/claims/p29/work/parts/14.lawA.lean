set_option linter.all false
noncomputable def f_L_rest (p0 : Int32) (p1 : Int32) (σ : Sg) : Int32 :=
  (((p0 - p0 / p1 * p1) + p1) - ((p0 - p0 / p1 * p1) + p1) / p1 * p1)
def ok_L_rest (p0 : Int32) (p1 : Int32) (σ : Sg) : Prop :=
  (¬ p1 = 0) ∧ ((¬ p1 = 0) ∧ (True))
set_option maxHeartbeats 4000000 in
set_option maxRecDepth 100000 in
theorem c_L_rest (l : Launch) (G : Gt) {p0 : Int32} {p1 : Int32}  {σ : Sg} (hok : ok_L_rest p0 p1 σ) : o_Ci l G yL_rest cL_rest 2 (some .int) 0 0 [.int p0, .int p1] σ (fun r σ' => r = f_L_rest p0 p1 σ ∧ σ' = σ) := by
  refine o_Ci.of (by decide +kernel) (Nat.le_of_ble_eq_true rfl) ?_
  intro p e s m args below meth c hc hr
  have hq : ∀ q : Int32, q = f_L_rest p0 p1 σ → (fun r σ' => r = f_L_rest p0 p1 σ ∧ σ' = σ) q σ := fun q h => ⟨h, rfl⟩
  refine r_iload_n (pc := 0) hc 0 dL_rest_0 rfl rfl ?_
  refine r_iload_n (pc := 1) hc 1 dL_rest_1 rfl rfl ?_
  obtain ⟨hs1, hok⟩ := hok
  refine r_irem (pc := 2) hc dL_rest_2 hs1 ?_
  refine r_iload_n (pc := 3) hc 1 dL_rest_3 rfl rfl ?_
  refine r_iadd (pc := 4) hc dL_rest_4 ?_
  refine r_iload_n (pc := 5) hc 1 dL_rest_5 rfl rfl ?_
  obtain ⟨hs2, hok⟩ := hok
  refine r_irem (pc := 6) hc dL_rest_6 hs2 ?_
  exact r_iret hc hr rfl dL_rest_7 (hq _ rfl)
noncomputable def f_L_byTable (p1 : Int32) (p2 : Int32) (σ : Sg) : Int32 :=
  let r4 := f_L_rest (((f_X5_reading 0 σ) - (f_X5_correction 0 p1 σ)) + 100) 272 σ
  let r8 := f_L_rest (((f_X5_reading 1 σ) - (f_X5_correction 1 p1 σ)) + 100) 255 σ
  let r12 := f_L_rest (((f_X5_reading 2 σ) - (f_X5_correction 2 p1 σ)) + 100) 240 σ
  (f_X5_found r4 r8 r12 p2 σ)
def ok_L_byTable (p1 : Int32) (p2 : Int32) (σ : Sg) : Prop :=
  (ok_X5_reading 0 σ) ∧ ((ok_X5_correction 0 p1 σ) ∧ ((ok_L_rest (((f_X5_reading 0 σ) - (f_X5_correction 0 p1 σ)) + 100) 272 σ) ∧ (let r4 := f_L_rest (((f_X5_reading 0 σ) - (f_X5_correction 0 p1 σ)) + 100) 272 σ
  (ok_X5_reading 1 σ) ∧ ((ok_X5_correction 1 p1 σ) ∧ ((ok_L_rest (((f_X5_reading 1 σ) - (f_X5_correction 1 p1 σ)) + 100) 255 σ) ∧ (let r8 := f_L_rest (((f_X5_reading 1 σ) - (f_X5_correction 1 p1 σ)) + 100) 255 σ
  (ok_X5_reading 2 σ) ∧ ((ok_X5_correction 2 p1 σ) ∧ ((ok_L_rest (((f_X5_reading 2 σ) - (f_X5_correction 2 p1 σ)) + 100) 240 σ) ∧ (let r12 := f_L_rest (((f_X5_reading 2 σ) - (f_X5_correction 2 p1 σ)) + 100) 240 σ
  (ok_X5_found r4 r8 r12 p2 σ) ∧ (True))))))))))
set_option maxHeartbeats 4000000 in
set_option maxRecDepth 100000 in
theorem c_L_byTable (l : Launch) (G : Gt) {p1 : Int32} {p2 : Int32}  {σ : Sg} (hok : ok_L_byTable p1 p2 σ) : o_Ci l G yL_byTable cL_byTable 6 (some .int) 5 121 [.ref (gAd G 0), .int p1, .int p2] σ (fun r σ' => r = f_L_byTable p1 p2 σ ∧ σ' = σ) := by
  refine o_Ci.of (by decide +kernel) (Nat.le_of_ble_eq_true rfl) ?_
  intro p e s m args below meth c hc hr
  have hq : ∀ q : Int32, q = f_L_byTable p1 p2 σ → (fun r σ' => r = f_L_byTable p1 p2 σ ∧ σ' = σ) q σ := fun q h => ⟨h, rfl⟩
  refine r_aload_n (pc := 0) hc 0 dL_byTable_0 rfl rfl ?_
  refine r_iconst (pc := 1) (v := 0) hc dL_byTable_1 rfl ?_
  obtain ⟨hs1, hok⟩ := hok
  refine r_callV_i (pc := 2) (as := [.int _]) hc (c_X5_reading l _ hs1) kk5 (o_lt hc (by decide)) rfl mV_X5_reading kM_L_30 ⟨Nat.le_of_ble_eq_true rfl, Nat.le_of_ble_eq_true rfl⟩ ⟨Nat.le_of_ble_eq_true rfl, Nat.le_of_ble_eq_true rfl⟩ rfl rfl (Nat.le_of_ble_eq_true rfl) dL_byTable_2 (fun r σ' h => ?_)
  obtain ⟨rfl, rfl⟩ := h
  refine r_aload_n (pc := 5) hc 0 dL_byTable_5 rfl rfl ?_
  refine r_iconst (pc := 6) (v := 0) hc dL_byTable_6 rfl ?_
  refine r_iload_n (pc := 7) hc 1 dL_byTable_7 rfl rfl ?_
  obtain ⟨hs2, hok⟩ := hok
  refine r_callV_i (pc := 8) (as := [.int _, .int _]) hc (c_X5_correction l _ hs2) kk5 (o_lt hc (by decide)) rfl mV_X5_correction kM_L_25 ⟨Nat.le_of_ble_eq_true rfl, Nat.le_of_ble_eq_true rfl⟩ ⟨Nat.le_of_ble_eq_true rfl, Nat.le_of_ble_eq_true rfl⟩ rfl rfl (Nat.le_of_ble_eq_true rfl) dL_byTable_8 (fun r σ' h => ?_)
  obtain ⟨rfl, rfl⟩ := h
  refine r_isub (pc := 11) hc dL_byTable_11 ?_
  refine r_bipush (pc := 12) (v := 100) hc dL_byTable_12 (by decide) ?_
  refine r_iadd (pc := 14) hc dL_byTable_14 ?_
  refine r_sipush (pc := 15) (v := 272) hc dL_byTable_15 (by decide) ?_
  obtain ⟨hs3, hok⟩ := hok
  refine r_callS_i (pc := 18) (as := [.int _, .int _]) hc (c_L_rest l _ hs3) mS_L_rest kM_L_9 ⟨Nat.le_of_ble_eq_true rfl, Nat.le_of_ble_eq_true rfl⟩ ⟨Nat.le_of_ble_eq_true rfl, Nat.le_of_ble_eq_true rfl⟩ rfl rfl (Nat.le_of_ble_eq_true rfl) dL_byTable_18 (fun r σ' h => ?_)
  obtain ⟨rfl, rfl⟩ := h
  refine r_istore_n (pc := 21) (lv' := [(3, _), (0, _), (1, _), (2, _)]) hc dL_byTable_21 rfl (by decide) rfl ?_
  refine r_aload_n (pc := 22) hc 1 dL_byTable_22 rfl rfl ?_
  refine r_iconst (pc := 23) (v := 1) hc dL_byTable_23 rfl ?_
  obtain ⟨hs5, hok⟩ := hok
  refine r_callV_i (pc := 24) (as := [.int _]) hc (c_X5_reading l _ hs5) kk5 (o_lt hc (by decide)) rfl mV_X5_reading kM_L_30 ⟨Nat.le_of_ble_eq_true rfl, Nat.le_of_ble_eq_true rfl⟩ ⟨Nat.le_of_ble_eq_true rfl, Nat.le_of_ble_eq_true rfl⟩ rfl rfl (Nat.le_of_ble_eq_true rfl) dL_byTable_24 (fun r σ' h => ?_)
  obtain ⟨rfl, rfl⟩ := h
  refine r_aload_n (pc := 27) hc 1 dL_byTable_27 rfl rfl ?_
  refine r_iconst (pc := 28) (v := 1) hc dL_byTable_28 rfl ?_
  refine r_iload_n (pc := 29) hc 2 dL_byTable_29 rfl rfl ?_
  obtain ⟨hs6, hok⟩ := hok
  refine r_callV_i (pc := 30) (as := [.int _, .int _]) hc (c_X5_correction l _ hs6) kk5 (o_lt hc (by decide)) rfl mV_X5_correction kM_L_25 ⟨Nat.le_of_ble_eq_true rfl, Nat.le_of_ble_eq_true rfl⟩ ⟨Nat.le_of_ble_eq_true rfl, Nat.le_of_ble_eq_true rfl⟩ rfl rfl (Nat.le_of_ble_eq_true rfl) dL_byTable_30 (fun r σ' h => ?_)
  obtain ⟨rfl, rfl⟩ := h
  refine r_isub (pc := 33) hc dL_byTable_33 ?_
  refine r_bipush (pc := 34) (v := 100) hc dL_byTable_34 (by decide) ?_
  refine r_iadd (pc := 36) hc dL_byTable_36 ?_
  refine r_sipush (pc := 37) (v := 255) hc dL_byTable_37 (by decide) ?_
  obtain ⟨hs7, hok⟩ := hok
  refine r_callS_i (pc := 40) (as := [.int _, .int _]) hc (c_L_rest l _ hs7) mS_L_rest kM_L_9 ⟨Nat.le_of_ble_eq_true rfl, Nat.le_of_ble_eq_true rfl⟩ ⟨Nat.le_of_ble_eq_true rfl, Nat.le_of_ble_eq_true rfl⟩ rfl rfl (Nat.le_of_ble_eq_true rfl) dL_byTable_40 (fun r σ' h => ?_)
  obtain ⟨rfl, rfl⟩ := h
  refine r_istore (pc := 43) (lv' := [(4, _), (3, _), (0, _), (1, _), (2, _)]) hc dL_byTable_43 (by decide) rfl ?_
  refine r_aload_n (pc := 45) hc 2 dL_byTable_45 rfl rfl ?_
  refine r_iconst (pc := 46) (v := 2) hc dL_byTable_46 rfl ?_
  obtain ⟨hs9, hok⟩ := hok
  refine r_callV_i (pc := 47) (as := [.int _]) hc (c_X5_reading l _ hs9) kk5 (o_lt hc (by decide)) rfl mV_X5_reading kM_L_30 ⟨Nat.le_of_ble_eq_true rfl, Nat.le_of_ble_eq_true rfl⟩ ⟨Nat.le_of_ble_eq_true rfl, Nat.le_of_ble_eq_true rfl⟩ rfl rfl (Nat.le_of_ble_eq_true rfl) dL_byTable_47 (fun r σ' h => ?_)
  obtain ⟨rfl, rfl⟩ := h
  refine r_aload_n (pc := 50) hc 2 dL_byTable_50 rfl rfl ?_
  refine r_iconst (pc := 51) (v := 2) hc dL_byTable_51 rfl ?_
  refine r_iload_n (pc := 52) hc 3 dL_byTable_52 rfl rfl ?_
  obtain ⟨hs10, hok⟩ := hok
  refine r_callV_i (pc := 53) (as := [.int _, .int _]) hc (c_X5_correction l _ hs10) kk5 (o_lt hc (by decide)) rfl mV_X5_correction kM_L_25 ⟨Nat.le_of_ble_eq_true rfl, Nat.le_of_ble_eq_true rfl⟩ ⟨Nat.le_of_ble_eq_true rfl, Nat.le_of_ble_eq_true rfl⟩ rfl rfl (Nat.le_of_ble_eq_true rfl) dL_byTable_53 (fun r σ' h => ?_)
  obtain ⟨rfl, rfl⟩ := h
  refine r_isub (pc := 56) hc dL_byTable_56 ?_
  refine r_bipush (pc := 57) (v := 100) hc dL_byTable_57 (by decide) ?_
  refine r_iadd (pc := 59) hc dL_byTable_59 ?_
  refine r_sipush (pc := 60) (v := 240) hc dL_byTable_60 (by decide) ?_
  obtain ⟨hs11, hok⟩ := hok
  refine r_callS_i (pc := 63) (as := [.int _, .int _]) hc (c_L_rest l _ hs11) mS_L_rest kM_L_9 ⟨Nat.le_of_ble_eq_true rfl, Nat.le_of_ble_eq_true rfl⟩ ⟨Nat.le_of_ble_eq_true rfl, Nat.le_of_ble_eq_true rfl⟩ rfl rfl (Nat.le_of_ble_eq_true rfl) dL_byTable_63 (fun r σ' h => ?_)
  obtain ⟨rfl, rfl⟩ := h
  refine r_istore (pc := 66) (lv' := [(5, _), (4, _), (3, _), (0, _), (1, _), (2, _)]) hc dL_byTable_66 (by decide) rfl ?_
  refine r_aload_n (pc := 68) hc 3 dL_byTable_68 rfl rfl ?_
  refine r_iload_n (pc := 69) hc 2 dL_byTable_69 rfl rfl ?_
  refine r_iload (pc := 70) hc 1 dL_byTable_70 rfl ?_
  refine r_iload (pc := 72) hc 0 dL_byTable_72 rfl ?_
  refine r_iload_n (pc := 74) hc 5 dL_byTable_74 rfl rfl ?_
  obtain ⟨hs13, hok⟩ := hok
  refine r_callV_i (pc := 75) (as := [.int _, .int _, .int _, .int _]) hc (c_X5_found l _ hs13) kk5 (o_lt hc (by decide)) rfl mV_X5_found kM_L_72 ⟨Nat.le_of_ble_eq_true rfl, Nat.le_of_ble_eq_true rfl⟩ ⟨Nat.le_of_ble_eq_true rfl, Nat.le_of_ble_eq_true rfl⟩ rfl rfl (Nat.le_of_ble_eq_true rfl) dL_byTable_75 (fun r σ' h => ?_)
  obtain ⟨rfl, rfl⟩ := h
  exact r_iret hc hr rfl dL_byTable_78 (hq _ rfl)
noncomputable def f_L_period (p0 : Int32) (σ : Sg) : Int32 :=
  (4080 / (15 + p0))
def ok_L_period (p0 : Int32) (σ : Sg) : Prop :=
  (¬ (15 + p0) = 0) ∧ (True)
set_option maxHeartbeats 4000000 in
set_option maxRecDepth 100000 in
theorem c_L_period (l : Launch) (G : Gt) {p0 : Int32}  {σ : Sg} (hok : ok_L_period p0 σ) : o_Ci l G yL_period cL_period 1 (some .int) 0 0 [.int p0] σ (fun r σ' => r = f_L_period p0 σ ∧ σ' = σ) := by
  refine o_Ci.of (by decide +kernel) (Nat.le_of_ble_eq_true rfl) ?_
  intro p e s m args below meth c hc hr
  have hq : ∀ q : Int32, q = f_L_period p0 σ → (fun r σ' => r = f_L_period p0 σ ∧ σ' = σ) q σ := fun q h => ⟨h, rfl⟩
  refine r_sipush (pc := 0) (v := 4080) hc dL_period_0 (by decide) ?_
  refine r_bipush (pc := 3) (v := 15) hc dL_period_3 (by decide) ?_
  refine r_iload_n (pc := 5) hc 0 dL_period_5 rfl rfl ?_
  refine r_iadd (pc := 6) hc dL_period_6 ?_
  obtain ⟨hs1, hok⟩ := hok
  refine r_idiv (pc := 7) hc dL_period_7 hs1 ?_
  exact r_iret hc hr rfl dL_period_8 (hq _ rfl)
noncomputable def f_L_near (p0 : Int32) (p1 : Int32) (σ : Sg) : Int32 :=
  o_ite ((p1 - (f_L_rest p0 p1 σ)) ≤ (f_L_rest p0 p1 σ)) (
    (p1 - (f_L_rest p0 p1 σ))) (
    (f_L_rest p0 p1 σ))
def ok_L_near (p0 : Int32) (p1 : Int32) (σ : Sg) : Prop :=
  (ok_L_rest p0 p1 σ) ∧ ((((p1 - (f_L_rest p0 p1 σ)) ≤ (f_L_rest p0 p1 σ)) →
    True) ∧ (¬ ((p1 - (f_L_rest p0 p1 σ)) ≤ (f_L_rest p0 p1 σ)) →
    True))
set_option maxHeartbeats 4000000 in
set_option maxRecDepth 100000 in
theorem c_L_near (l : Launch) (G : Gt) {p0 : Int32} {p1 : Int32}  {σ : Sg} (hok : ok_L_near p0 p1 σ) : o_Ci l G yL_near cL_near 3 (some .int) 1 21 [.int p0, .int p1] σ (fun r σ' => r = f_L_near p0 p1 σ ∧ σ' = σ) := by
  refine o_Ci.of (by decide +kernel) (Nat.le_of_ble_eq_true rfl) ?_
  intro p e s m args below meth c hc hr
  have hq : ∀ q : Int32, q = f_L_near p0 p1 σ → (fun r σ' => r = f_L_near p0 p1 σ ∧ σ' = σ) q σ := fun q h => ⟨h, rfl⟩
  refine r_iload_n (pc := 0) hc 0 dL_near_0 rfl rfl ?_
  refine r_iload_n (pc := 1) hc 1 dL_near_1 rfl rfl ?_
  obtain ⟨hs1, hok⟩ := hok
  refine r_callS_i (pc := 2) (as := [.int _, .int _]) hc (c_L_rest l _ hs1) mS_L_rest kM_L_9 ⟨Nat.le_of_ble_eq_true rfl, Nat.le_of_ble_eq_true rfl⟩ ⟨Nat.le_of_ble_eq_true rfl, Nat.le_of_ble_eq_true rfl⟩ rfl rfl (Nat.le_of_ble_eq_true rfl) dL_near_2 (fun r σ' h => ?_)
  obtain ⟨rfl, rfl⟩ := h
  refine r_istore_n (pc := 5) (lv' := [(2, _), (0, _), (1, _)]) hc dL_near_5 rfl (by decide) rfl ?_
  refine r_iload_n (pc := 6) hc 0 dL_near_6 rfl rfl ?_
  refine r_iload_n (pc := 7) hc 2 dL_near_7 rfl rfl ?_
  refine r_iload_n (pc := 8) hc 0 dL_near_8 rfl rfl ?_
  refine r_isub (pc := 9) hc dL_near_9 ?_
  refine r_icmp_ge (pc := 10) (tgt := 17) hc dL_near_10 (by decide) (fun c10 => ?_) (fun c10 => ?_)
  · have hok := hok.1 c10
    have hq := o_qp hq c10
    refine r_iload_n (pc := 17) hc 2 dL_near_17 rfl rfl ?_
    refine r_iload_n (pc := 18) hc 0 dL_near_18 rfl rfl ?_
    refine r_isub (pc := 19) hc dL_near_19 ?_
    exact r_iret hc hr rfl dL_near_20 (hq _ rfl)
  · have hok := hok.2 c10
    have hq := o_qn hq c10
    refine r_iload_n (pc := 13) hc 0 dL_near_13 rfl rfl ?_
    refine r_goto (pc := 14) (tgt := 20) hc dL_near_14 (by decide) ?_
    exact r_iret hc hr rfl dL_near_20 (hq _ rfl)
noncomputable def f_L_least (p0 : Int32) (p1 : Int32) (σ : Sg) : Int32 :=
  o_ite (p1 ≤ p0) (
    p1) (
    p0)
def ok_L_least (p0 : Int32) (p1 : Int32) (σ : Sg) : Prop :=
  ((p1 ≤ p0) →
    True) ∧ (¬ (p1 ≤ p0) →
    True)
set_option maxHeartbeats 4000000 in
set_option maxRecDepth 100000 in
theorem c_L_least (l : Launch) (G : Gt) {p0 : Int32} {p1 : Int32}  {σ : Sg} (hok : ok_L_least p0 p1 σ) : o_Ci l G yL_least cL_least 2 (some .int) 0 0 [.int p0, .int p1] σ (fun r σ' => r = f_L_least p0 p1 σ ∧ σ' = σ) := by
  refine o_Ci.of (by decide +kernel) (Nat.le_of_ble_eq_true rfl) ?_
  intro p e s m args below meth c hc hr
  have hq : ∀ q : Int32, q = f_L_least p0 p1 σ → (fun r σ' => r = f_L_least p0 p1 σ ∧ σ' = σ) q σ := fun q h => ⟨h, rfl⟩
  refine r_iload_n (pc := 0) hc 0 dL_least_0 rfl rfl ?_
  refine r_iload_n (pc := 1) hc 1 dL_least_1 rfl rfl ?_
  refine r_icmp_ge (pc := 2) (tgt := 9) hc dL_least_2 (by decide) (fun c2 => ?_) (fun c2 => ?_)
  · have hok := hok.1 c2
    have hq := o_qp hq c2
    refine r_iload_n (pc := 9) hc 1 dL_least_9 rfl rfl ?_
    exact r_iret hc hr rfl dL_least_10 (hq _ rfl)
  · have hok := hok.2 c2
    have hq := o_qn hq c2
    refine r_iload_n (pc := 5) hc 0 dL_least_5 rfl rfl ?_
    refine r_goto (pc := 6) (tgt := 10) hc dL_least_6 (by decide) ?_
    exact r_iret hc hr rfl dL_least_10 (hq _ rfl)
noncomputable def f_L_low (p0 : Int32) (p1 : Int32) (σ : Sg) : Int32 :=
  ((p0 &&& 2147483647) - (p0 &&& 2147483647) / p1 * p1)
def ok_L_low (p0 : Int32) (p1 : Int32) (σ : Sg) : Prop :=
  (¬ p1 = 0) ∧ (True)
set_option maxHeartbeats 4000000 in
set_option maxRecDepth 100000 in
theorem c_L_low (l : Launch) (G : Gt) {p0 : Int32} {p1 : Int32}  {σ : Sg} (hok : ok_L_low p0 p1 σ) : o_Ci l G yL_low cL_low 2 (some .int) 0 0 [.int p0, .int p1] σ (fun r σ' => r = f_L_low p0 p1 σ ∧ σ' = σ) := by
  refine o_Ci.of (by decide +kernel) (Nat.le_of_ble_eq_true rfl) ?_
  intro p e s m args below meth c hc hr
  have hq : ∀ q : Int32, q = f_L_low p0 p1 σ → (fun r σ' => r = f_L_low p0 p1 σ ∧ σ' = σ) q σ := fun q h => ⟨h, rfl⟩
  refine r_iload_n (pc := 0) hc 0 dL_low_0 rfl rfl ?_
  refine r_ldc (pc := 1) (v := 2147483647) hc kK_L_8 dL_low_1 ?_
  refine r_iand (pc := 3) hc dL_low_3 ?_
  refine r_iload_n (pc := 4) hc 1 dL_low_4 rfl rfl ?_
  obtain ⟨hs1, hok⟩ := hok
  refine r_irem (pc := 5) hc dL_low_5 hs1 ?_
  exact r_iret hc hr rfl dL_low_6 (hq _ rfl)
noncomputable def f_L_sum_77  : Nat → Int64 → Int32 → Sg → Int64
  | 0 => fun _ _ σ => 0
  | n + 1 => fun l1 x3 σ =>
    o_ite (4 ≤ x3) (
      l1) (
      o_ite (3 ≤ x3) (
        let w3 := ((((31 : Int64) * l1) + (Int32.toInt64 (f_X5_count (20 + x3) σ))) + (Int32.toInt64 (f_X5_poor σ)))
        f_L_sum_77 n w3 (x3 + 1) σ) (
        let w5 := ((((31 : Int64) * l1) + (Int32.toInt64 (f_X5_count (20 + x3) σ))) + ((4 : Int64) * (Int32.toInt64 (f_X5_reading x3 σ))))
        f_L_sum_77 n w5 (x3 + 1) σ))
def ok_L_sum_77  : Nat → Int64 → Int32 → Sg → Prop
  | 0 => fun _ _ _ => False
  | n + 1 => fun l1 x3 σ =>
    ((4 ≤ x3) →
      True) ∧ (¬ (4 ≤ x3) →
      (ok_X5_count (20 + x3) σ) ∧ (((3 ≤ x3) →
        (ok_X5_poor σ) ∧ (let w3 := ((((31 : Int64) * l1) + (Int32.toInt64 (f_X5_count (20 + x3) σ))) + (Int32.toInt64 (f_X5_poor σ)))
        ok_L_sum_77  n w3 (x3 + 1) σ)) ∧ (¬ (3 ≤ x3) →
        (ok_X5_reading x3 σ) ∧ (let w5 := ((((31 : Int64) * l1) + (Int32.toInt64 (f_X5_count (20 + x3) σ))) + ((4 : Int64) * (Int32.toInt64 (f_X5_reading x3 σ))))
        ok_L_sum_77  n w5 (x3 + 1) σ))))
noncomputable def f_L_sum_43  : Nat → Int64 → Int32 → Sg → Int64
  | 0 => fun _ _ σ => 0
  | n + 1 => fun l1 x3 σ =>
    o_ite (24 ≤ x3) (
      f_L_sum_77  oF l1 0 σ) (
      let w2 := (((31 : Int64) * l1) + (Int32.toInt64 (f_X5_correction (x3 / 8) (x3 - x3 / 8 * 8) σ)))
      f_L_sum_43 n w2 (x3 + 1) σ)
def ok_L_sum_43  : Nat → Int64 → Int32 → Sg → Prop
  | 0 => fun _ _ _ => False
  | n + 1 => fun l1 x3 σ =>
    ((24 ≤ x3) →
      ok_L_sum_77  oF l1 0 σ) ∧ (¬ (24 ≤ x3) →
      (ok_X5_correction (x3 / 8) (x3 - x3 / 8 * 8) σ) ∧ (let w2 := (((31 : Int64) * l1) + (Int32.toInt64 (f_X5_correction (x3 / 8) (x3 - x3 / 8 * 8) σ)))
      ok_L_sum_43  n w2 (x3 + 1) σ))
noncomputable def f_L_sum_32 (K : Int64 → Int32 → Sg → Int64) (x3 : Int32) (y0 : Int32) (m1 : Int64) (σ : Sg) : Int64 :=
  K (m1 + (Int32.toInt64 y0)) (x3 + 1) σ
def ok_L_sum_32 (okK : Int64 → Int32 → Sg → Prop) (x3 : Int32) (y0 : Int32) (m1 : Int64) (σ : Sg) : Prop :=
  okK (m1 + (Int32.toInt64 y0)) (x3 + 1) σ
noncomputable def f_L_sum_6  : Nat → Int64 → Int32 → Sg → Int64
  | 0 => fun _ _ σ => 0
  | n + 1 => fun l1 x3 σ =>
    o_ite (12 ≤ x3) (
      f_L_sum_43  oF l1 0 σ) (
      o_ite (x3 = 10) (
        f_L_sum_32 (f_L_sum_6 n) x3 0 ((31 : Int64) * l1) σ) (
        f_L_sum_32 (f_L_sum_6 n) x3 (f_X5_count x3 σ) ((31 : Int64) * l1) σ))
def ok_L_sum_6  : Nat → Int64 → Int32 → Sg → Prop
  | 0 => fun _ _ _ => False
  | n + 1 => fun l1 x3 σ =>
    ((12 ≤ x3) →
      ok_L_sum_43  oF l1 0 σ) ∧ (¬ (12 ≤ x3) →
      ((x3 = 10) →
        ok_L_sum_32 (ok_L_sum_6 n) x3 0 ((31 : Int64) * l1) σ) ∧ (¬ (x3 = 10) →
        (ok_X5_count x3 σ) ∧ (ok_L_sum_32 (ok_L_sum_6 n) x3 (f_X5_count x3 σ) ((31 : Int64) * l1) σ)))
noncomputable def f_L_sum  (σ : Sg) : Int64 :=
  f_L_sum_6  oF (17 : Int64) 0 σ
def ok_L_sum  (σ : Sg) : Prop :=
  ok_L_sum_6  oF (17 : Int64) 0 σ
set_option maxHeartbeats 4000000 in
set_option maxRecDepth 100000 in
theorem t_L_sum_77 {p : Program} {l : Launch} {e : Env} {s : State} {m : MethodId} {args : Array Value} {below : List Frame} {meth : Method} {c : Code} {G : Gt} {post : Int64 → Sg → Prop}   (hc : o_Cx p s m args meth c G cL_sum yL_sum.cls 4) (hr : meth.sig.returnType = (some .long)) : ∀ (n : Nat) (l1 : Int64) (x3 : Int32) (σ : Sg) (hok : ok_L_sum_77  n l1 x3 σ) (hq : ∀ q : Int64, q = f_L_sum_77  n l1 x3 σ → post q σ), o_V p l e { frames := 4, cells := 0, slots := 0, locals := 85 } s m args below meth c (MQ below (va_Ql post (fun σ' t => o_W G σ' t.heap) (o_A G)) args s 0 0 (o_A G)) G 0 0 4 σ 77 [(0, .ref (gAd G 0)), (1, .long l1), (3, .int x3)] [] := by
  intro n
  induction n with
  | zero =>
    intro l1 x3 σ hok hq
    exact hok.elim
  | succ n ih =>
    intro l1 x3 σ hok hq
    refine r_iload_n (pc := 77) hc 2 dL_sum_77 rfl rfl ?_
    refine r_iconst (pc := 78) (v := 4) hc dL_sum_78 rfl ?_
    refine r_icmp_ge (pc := 79) (tgt := 128) hc dL_sum_79 (by decide) (fun c79 => ?_) (fun c79 => ?_)
    · have hok := hok.1 c79
      have hq := o_qp hq c79
      refine r_lload_n (pc := 128) hc 1 dL_sum_128 rfl rfl ?_
      exact r_lret hc hr dL_sum_129 (hq _ rfl)
    · have hok := hok.2 c79
      have hq := o_qn hq c79
      refine r_ldc2 (pc := 82) (v := 31) hc kJ_L_17 dL_sum_82 ?_
      refine r_lload_n (pc := 85) hc 1 dL_sum_85 rfl rfl ?_
      refine r_lmul (pc := 86) hc dL_sum_86 ?_
      refine r_aload_n (pc := 87) hc 0 dL_sum_87 rfl rfl ?_
      refine r_bipush (pc := 88) (v := 20) hc dL_sum_88 (by decide) ?_
      refine r_iload_n (pc := 90) hc 2 dL_sum_90 rfl rfl ?_
      refine r_iadd (pc := 91) hc dL_sum_91 ?_
      obtain ⟨hs1, hok⟩ := hok
      refine r_callV_i (pc := 92) (as := [.int _]) hc (c_X5_count l _ hs1) kk5 (o_lt hc (by decide)) rfl mV_X5_count kM_L_19 ⟨Nat.le_of_ble_eq_true rfl, Nat.le_of_ble_eq_true rfl⟩ ⟨Nat.le_of_ble_eq_true rfl, Nat.le_of_ble_eq_true rfl⟩ rfl rfl (Nat.le_of_ble_eq_true rfl) dL_sum_92 (fun r σ' h => ?_)
      obtain ⟨rfl, rfl⟩ := h
      refine r_i2l (pc := 95) hc dL_sum_95 ?_
      refine r_ladd (pc := 96) hc dL_sum_96 ?_
      refine r_iload_n (pc := 97) hc 2 dL_sum_97 rfl rfl ?_
      refine r_iconst (pc := 98) (v := 3) hc dL_sum_98 rfl ?_
      refine r_icmp_ge (pc := 99) (tgt := 115) hc dL_sum_99 (by decide) (fun c99 => ?_) (fun c99 => ?_)
      · have hok := hok.1 c99
        have hq := o_qp hq c99
        refine r_aload_n (pc := 115) hc 0 dL_sum_115 rfl rfl ?_
        obtain ⟨hs2, hok⟩ := hok
        refine r_callV_i (pc := 116) (as := []) hc (c_X5_poor l _ hs2) kk5 (o_lt hc (by decide)) rfl mV_X5_poor kM_L_33 ⟨Nat.le_of_ble_eq_true rfl, Nat.le_of_ble_eq_true rfl⟩ ⟨Nat.le_of_ble_eq_true rfl, Nat.le_of_ble_eq_true rfl⟩ rfl rfl (Nat.le_of_ble_eq_true rfl) dL_sum_116 (fun r σ' h => ?_)
        obtain ⟨rfl, rfl⟩ := h
        refine r_i2l (pc := 119) hc dL_sum_119 ?_
        refine r_ladd (pc := 120) hc dL_sum_120 ?_
        refine r_lstore_n (pc := 121) (lv' := [(1, _), (0, _), (3, _)]) hc dL_sum_121 rfl (by decide) rfl ?_
        refine r_iinc (pc := 122) (q := 2) (v := _ + 1) (lv' := [(3, _), (1, _), (0, _)]) hc dL_sum_122 rfl rfl (by decide) rfl ?_
        refine r_goto (pc := 125) (tgt := 77) hc dL_sum_125 (by decide) ?_
        exact o_V.sub (ih _ _ _ hok hq) [2, 1, 0] rfl
      · have hok := hok.2 c99
        have hq := o_qn hq c99
        refine r_ldc2 (pc := 102) (v := 4) hc kJ_L_28 dL_sum_102 ?_
        refine r_aload_n (pc := 105) hc 0 dL_sum_105 rfl rfl ?_
        refine r_iload_n (pc := 106) hc 2 dL_sum_106 rfl rfl ?_
        obtain ⟨hs4, hok⟩ := hok
        refine r_callV_i (pc := 107) (as := [.int _]) hc (c_X5_reading l _ hs4) kk5 (o_lt hc (by decide)) rfl mV_X5_reading kM_L_30 ⟨Nat.le_of_ble_eq_true rfl, Nat.le_of_ble_eq_true rfl⟩ ⟨Nat.le_of_ble_eq_true rfl, Nat.le_of_ble_eq_true rfl⟩ rfl rfl (Nat.le_of_ble_eq_true rfl) dL_sum_107 (fun r σ' h => ?_)
        obtain ⟨rfl, rfl⟩ := h
        refine r_i2l (pc := 110) hc dL_sum_110 ?_
        refine r_lmul (pc := 111) hc dL_sum_111 ?_
        refine r_goto (pc := 112) (tgt := 120) hc dL_sum_112 (by decide) ?_
        refine r_ladd (pc := 120) hc dL_sum_120 ?_
        refine r_lstore_n (pc := 121) (lv' := [(1, _), (0, _), (3, _)]) hc dL_sum_121 rfl (by decide) rfl ?_
        refine r_iinc (pc := 122) (q := 2) (v := _ + 1) (lv' := [(3, _), (1, _), (0, _)]) hc dL_sum_122 rfl rfl (by decide) rfl ?_
        refine r_goto (pc := 125) (tgt := 77) hc dL_sum_125 (by decide) ?_
        exact o_V.sub (ih _ _ _ hok hq) [2, 1, 0] rfl
set_option maxHeartbeats 4000000 in
set_option maxRecDepth 100000 in
theorem t_L_sum_43 {p : Program} {l : Launch} {e : Env} {s : State} {m : MethodId} {args : Array Value} {below : List Frame} {meth : Method} {c : Code} {G : Gt} {post : Int64 → Sg → Prop}   (hc : o_Cx p s m args meth c G cL_sum yL_sum.cls 4) (hr : meth.sig.returnType = (some .long)) : ∀ (n : Nat) (l1 : Int64) (x3 : Int32) (σ : Sg) (hok : ok_L_sum_43  n l1 x3 σ) (hq : ∀ q : Int64, q = f_L_sum_43  n l1 x3 σ → post q σ), o_V p l e { frames := 4, cells := 0, slots := 0, locals := 85 } s m args below meth c (MQ below (va_Ql post (fun σ' t => o_W G σ' t.heap) (o_A G)) args s 0 0 (o_A G)) G 0 0 4 σ 43 [(0, .ref (gAd G 0)), (1, .long l1), (3, .int x3)] [] := by
  intro n
  induction n with
  | zero =>
    intro l1 x3 σ hok hq
    exact hok.elim
  | succ n ih =>
    intro l1 x3 σ hok hq
    refine r_iload_n (pc := 43) hc 2 dL_sum_43 rfl rfl ?_
    refine r_bipush (pc := 44) (v := 24) hc dL_sum_44 (by decide) ?_
    refine r_icmp_ge (pc := 46) (tgt := 75) hc dL_sum_46 (by decide) (fun c46 => ?_) (fun c46 => ?_)
    · have hok := hok.1 c46
      have hq := o_qp hq c46
      refine r_iconst (pc := 75) (v := 0) hc dL_sum_75 rfl ?_
      refine r_istore_n (pc := 76) (lv' := [(3, _), (0, _), (1, _)]) hc dL_sum_76 rfl (by decide) rfl ?_
      exact o_V.sub (t_L_sum_77  hc hr oF _ _ _ hok hq) [1, 2, 0] rfl
    · have hok := hok.2 c46
      have hq := o_qn hq c46
      refine r_ldc2 (pc := 49) (v := 31) hc kJ_L_17 dL_sum_49 ?_
      refine r_lload_n (pc := 52) hc 1 dL_sum_52 rfl rfl ?_
      refine r_lmul (pc := 53) hc dL_sum_53 ?_
      refine r_aload_n (pc := 54) hc 0 dL_sum_54 rfl rfl ?_
      refine r_iload_n (pc := 55) hc 2 dL_sum_55 rfl rfl ?_
      refine r_bipush (pc := 56) (v := 8) hc dL_sum_56 (by decide) ?_
      refine r_idiv (pc := 58) hc dL_sum_58 (by decide) ?_
      refine r_iload_n (pc := 59) hc 2 dL_sum_59 rfl rfl ?_
      refine r_bipush (pc := 60) (v := 8) hc dL_sum_60 (by decide) ?_
      refine r_irem (pc := 62) hc dL_sum_62 (by decide) ?_
      obtain ⟨hs1, hok⟩ := hok
      refine r_callV_i (pc := 63) (as := [.int _, .int _]) hc (c_X5_correction l _ hs1) kk5 (o_lt hc (by decide)) rfl mV_X5_correction kM_L_25 ⟨Nat.le_of_ble_eq_true rfl, Nat.le_of_ble_eq_true rfl⟩ ⟨Nat.le_of_ble_eq_true rfl, Nat.le_of_ble_eq_true rfl⟩ rfl rfl (Nat.le_of_ble_eq_true rfl) dL_sum_63 (fun r σ' h => ?_)
      obtain ⟨rfl, rfl⟩ := h
      refine r_i2l (pc := 66) hc dL_sum_66 ?_
      refine r_ladd (pc := 67) hc dL_sum_67 ?_
      refine r_lstore_n (pc := 68) (lv' := [(1, _), (0, _), (3, _)]) hc dL_sum_68 rfl (by decide) rfl ?_
      refine r_iinc (pc := 69) (q := 2) (v := _ + 1) (lv' := [(3, _), (1, _), (0, _)]) hc dL_sum_69 rfl rfl (by decide) rfl ?_
      refine r_goto (pc := 72) (tgt := 43) hc dL_sum_72 (by decide) ?_
      exact o_V.sub (ih _ _ _ hok hq) [2, 1, 0] rfl
set_option maxHeartbeats 4000000 in
set_option maxRecDepth 100000 in
theorem t_L_sum_32 {p : Program} {l : Launch} {e : Env} {s : State} {m : MethodId} {args : Array Value} {below : List Frame} {meth : Method} {c : Code} {G : Gt} {post : Int64 → Sg → Prop}  (hc : o_Cx p s m args meth c G cL_sum yL_sum.cls 4) (hr : meth.sig.returnType = (some .long)) {K : Int64 → Int32 → Sg → Int64} {okK : Int64 → Int32 → Sg → Prop} (hK : ∀ (z1 : Int64) (z3 : Int32) (zs : Sg), okK z1 z3 zs → (∀ q : Int64, q = K z1 z3 zs → post q zs) → o_V p l e { frames := 4, cells := 0, slots := 0, locals := 85 } s m args below meth c (MQ below (va_Ql post (fun σ' t => o_W G σ' t.heap) (o_A G)) args s 0 0 (o_A G)) G 0 0 4 zs 6 [(0, .ref (gAd G 0)), (1, .long z1), (3, .int z3)] []) {x3 : Int32} {y0 : Int32} {m1 : Int64} {σ : Sg} (hok : ok_L_sum_32 okK x3 y0 m1 σ) (hq : ∀ q : Int64, q = f_L_sum_32 K x3 y0 m1 σ → post q σ) : o_V p l e { frames := 4, cells := 0, slots := 0, locals := 85 } s m args below meth c (MQ below (va_Ql post (fun σ' t => o_W G σ' t.heap) (o_A G)) args s 0 0 (o_A G)) G 0 0 4 σ 32 [(0, .ref (gAd G 0)), (3, .int x3)] [.int y0, .long m1] := by
  refine r_i2l (pc := 32) hc dL_sum_32 ?_
  refine r_ladd (pc := 33) hc dL_sum_33 ?_
  refine r_lstore_n (pc := 34) (lv' := [(1, _), (0, _), (3, _)]) hc dL_sum_34 rfl (by decide) rfl ?_
  refine r_iinc (pc := 35) (q := 2) (v := _ + 1) (lv' := [(3, _), (1, _), (0, _)]) hc dL_sum_35 rfl rfl (by decide) rfl ?_
  refine r_goto (pc := 38) (tgt := 6) hc dL_sum_38 (by decide) ?_
  exact o_V.sub (hK _ _ _ hok hq) [2, 1, 0] rfl
set_option maxHeartbeats 4000000 in
set_option maxRecDepth 100000 in
theorem t_L_sum_6 {p : Program} {l : Launch} {e : Env} {s : State} {m : MethodId} {args : Array Value} {below : List Frame} {meth : Method} {c : Code} {G : Gt} {post : Int64 → Sg → Prop}   (hc : o_Cx p s m args meth c G cL_sum yL_sum.cls 4) (hr : meth.sig.returnType = (some .long)) : ∀ (n : Nat) (l1 : Int64) (x3 : Int32) (σ : Sg) (hok : ok_L_sum_6  n l1 x3 σ) (hq : ∀ q : Int64, q = f_L_sum_6  n l1 x3 σ → post q σ), o_V p l e { frames := 4, cells := 0, slots := 0, locals := 85 } s m args below meth c (MQ below (va_Ql post (fun σ' t => o_W G σ' t.heap) (o_A G)) args s 0 0 (o_A G)) G 0 0 4 σ 6 [(0, .ref (gAd G 0)), (1, .long l1), (3, .int x3)] [] := by
  intro n
  induction n with
  | zero =>
    intro l1 x3 σ hok hq
    exact hok.elim
  | succ n ih =>
    intro l1 x3 σ hok hq
    refine r_iload_n (pc := 6) hc 2 dL_sum_6 rfl rfl ?_
    refine r_bipush (pc := 7) (v := 12) hc dL_sum_7 (by decide) ?_
    refine r_icmp_ge (pc := 9) (tgt := 41) hc dL_sum_9 (by decide) (fun c9 => ?_) (fun c9 => ?_)
    · have hok := hok.1 c9
      have hq := o_qp hq c9
      refine r_iconst (pc := 41) (v := 0) hc dL_sum_41 rfl ?_
      refine r_istore_n (pc := 42) (lv' := [(3, _), (0, _), (1, _)]) hc dL_sum_42 rfl (by decide) rfl ?_
      exact o_V.sub (t_L_sum_43  hc hr oF _ _ _ hok hq) [1, 2, 0] rfl
    · have hok := hok.2 c9
      have hq := o_qn hq c9
      refine r_ldc2 (pc := 12) (v := 31) hc kJ_L_17 dL_sum_12 ?_
      refine r_lload_n (pc := 15) hc 1 dL_sum_15 rfl rfl ?_
      refine r_lmul (pc := 16) hc dL_sum_16 ?_
      refine r_iload_n (pc := 17) hc 2 dL_sum_17 rfl rfl ?_
      refine r_bipush (pc := 18) (v := 10) hc dL_sum_18 (by decide) ?_
      refine r_icmp_ne (pc := 20) (tgt := 27) hc dL_sum_20 (by decide) (fun c20 => ?_) (fun c20 => ?_)
      · have hok := hok.2 c20
        have hq := o_qn hq c20
        refine r_aload_n (pc := 27) hc 0 dL_sum_27 rfl rfl ?_
        refine r_iload_n (pc := 28) hc 2 dL_sum_28 rfl rfl ?_
        obtain ⟨hs1, hok⟩ := hok
        refine r_callV_i (pc := 29) (as := [.int _]) hc (c_X5_count l _ hs1) kk5 (o_lt hc (by decide)) rfl mV_X5_count kM_L_19 ⟨Nat.le_of_ble_eq_true rfl, Nat.le_of_ble_eq_true rfl⟩ ⟨Nat.le_of_ble_eq_true rfl, Nat.le_of_ble_eq_true rfl⟩ rfl rfl (Nat.le_of_ble_eq_true rfl) dL_sum_29 (fun r σ' h => ?_)
        obtain ⟨rfl, rfl⟩ := h
        exact o_V.sub (t_L_sum_32 hc hr (K := f_L_sum_6 n) (okK := ok_L_sum_6 n) (fun z0 z1 zs h1 h2 => ih z0 z1 zs h1 h2) hok hq) [0, 2] rfl
      · have hok := hok.1 c20
        have hq := o_qp hq c20
        refine r_iconst (pc := 23) (v := 0) hc dL_sum_23 rfl ?_
        refine r_goto (pc := 24) (tgt := 32) hc dL_sum_24 (by decide) ?_
        exact o_V.sub (t_L_sum_32 hc hr (K := f_L_sum_6 n) (okK := ok_L_sum_6 n) (fun z0 z1 zs h1 h2 => ih z0 z1 zs h1 h2) hok hq) [0, 2] rfl
set_option maxHeartbeats 4000000 in
set_option maxRecDepth 100000 in
theorem c_L_sum (l : Launch) (G : Gt)   {σ : Sg} (hok : ok_L_sum  σ) : o_Cl l G yL_sum cL_sum 4 (some .long) 4 85 [.ref (gAd G 0)] σ (fun r σ' => r = f_L_sum  σ ∧ σ' = σ) := by
  refine o_Cl.of (by decide +kernel) (Nat.le_of_ble_eq_true rfl) ?_
  intro p e s m args below meth c hc hr
  have hq : ∀ q : Int64, q = f_L_sum  σ → (fun r σ' => r = f_L_sum  σ ∧ σ' = σ) q σ := fun q h => ⟨h, rfl⟩
  refine r_ldc2 (pc := 0) (v := 17) hc kJ_L_15 dL_sum_0 ?_
  refine r_lstore_n (pc := 3) (lv' := [(1, _), (0, _)]) hc dL_sum_3 rfl (by decide) rfl ?_
  refine r_iconst (pc := 4) (v := 0) hc dL_sum_4 rfl ?_
  refine r_istore_n (pc := 5) (lv' := [(3, _), (1, _), (0, _)]) hc dL_sum_5 rfl (by decide) rfl ?_
  exact o_V.sub (t_L_sum_6  hc hr oF _ _ _ hok hq) [2, 1, 0] rfl
noncomputable def f_L_refused_275  (l1 : Int64) (x3 : Int32) (y0 : Int32) (σ : Sg) : Int32 × Sg :=
  o_ite (y0 = 0) (
    (0, σ)) (
    o_ite ((lg_cmp (f_L_sum σ) l1) = 0) (
      o_ite ((f_X5_count 10 σ) = x3) (
        (1, σ)) (
        (0, σ))) (
      (0, σ)))
def ok_L_refused_275  (l1 : Int64) (x3 : Int32) (y0 : Int32) (σ : Sg) : Prop :=
  ((y0 = 0) →
    True) ∧ (¬ (y0 = 0) →
    (ok_L_sum σ) ∧ ((((lg_cmp (f_L_sum σ) l1) = 0) →
      (ok_X5_count 10 σ) ∧ ((((f_X5_count 10 σ) = x3) →
        True) ∧ (¬ ((f_X5_count 10 σ) = x3) →
        True))) ∧ (¬ ((lg_cmp (f_L_sum σ) l1) = 0) →
      True)))
noncomputable def f_L_refused_274  (l1 : Int64) (x3 : Int32) (σ : Sg) : Int32 × Sg :=
  f_L_refused_275 l1 x3 0 σ
def ok_L_refused_274  (l1 : Int64) (x3 : Int32) (σ : Sg) : Prop :=
  ok_L_refused_275 l1 x3 0 σ
noncomputable def f_L_refused_270  (l1 : Int64) (x3 : Int32) (σ : Sg) : Int32 × Sg :=
  f_L_refused_275 l1 x3 1 σ
def ok_L_refused_270  (l1 : Int64) (x3 : Int32) (σ : Sg) : Prop :=
  ok_L_refused_275 l1 x3 1 σ
noncomputable def f_L_refused_249  (l1 : Int64) (x3 : Int32) (σ : Sg) : Int32 × Sg :=
  o_ite ((f_X5_count 5 σ) < 91) (
    f_L_refused_270 l1 x3 σ) (
    let q3 := f_X5_brownout 9 σ
    o_ite (q3.1 = (-3)) (
      f_L_refused_270 l1 x3 q3.2) (
      f_L_refused_274 l1 x3 q3.2))
def ok_L_refused_249  (l1 : Int64) (x3 : Int32) (σ : Sg) : Prop :=
  (ok_X5_count 5 σ) ∧ ((((f_X5_count 5 σ) < 91) →
    ok_L_refused_270 l1 x3 σ) ∧ (¬ ((f_X5_count 5 σ) < 91) →
    (ok_X5_brownout 9 σ) ∧ (let q3 := f_X5_brownout 9 σ
    ((q3.1 = (-3)) →
      ok_L_refused_270 l1 x3 q3.2) ∧ (¬ (q3.1 = (-3)) →
      ok_L_refused_274 l1 x3 q3.2))))
noncomputable def f_L_refused_222  (l1 : Int64) (x3 : Int32) (σ : Sg) : Int32 × Sg :=
  o_ite ((f_X5_count 3 σ) = 1) (
    f_L_refused_249 l1 x3 σ) (
    let q3 := f_X5_sample σ
    o_ite (q3.1 = (-2)) (
      let q5 := f_X5_reason q3.2
      o_ite (q5.1 = (-2)) (
        f_L_refused_249 l1 x3 q5.2) (
        f_L_refused_274 l1 x3 q5.2)) (
      f_L_refused_274 l1 x3 q3.2))
def ok_L_refused_222  (l1 : Int64) (x3 : Int32) (σ : Sg) : Prop :=
  (ok_X5_count 3 σ) ∧ ((((f_X5_count 3 σ) = 1) →
    ok_L_refused_249 l1 x3 σ) ∧ (¬ ((f_X5_count 3 σ) = 1) →
    (ok_X5_sample σ) ∧ (let q3 := f_X5_sample σ
    ((q3.1 = (-2)) →
      (ok_X5_reason q3.2) ∧ (let q5 := f_X5_reason q3.2
      ((q5.1 = (-2)) →
        ok_L_refused_249 l1 x3 q5.2) ∧ (¬ (q5.1 = (-2)) →
        ok_L_refused_274 l1 x3 q5.2))) ∧ (¬ (q3.1 = (-2)) →
      ok_L_refused_274 l1 x3 q3.2))))
noncomputable def f_L_refused_187  (l1 : Int64) (x3 : Int32) (y0 : Int32) (σ : Sg) : Int32 × Sg :=
  o_ite (y0 = 0) (
    f_L_refused_274 l1 x3 σ) (
    o_ite (9999 ≤ (f_X5_count 0 σ)) (
      f_L_refused_222 l1 x3 σ) (
      let q4 := f_X5_turn ((-(f_X5_count 0 σ)) - 1) σ
      o_ite (q4.1 = (-2)) (
        f_L_refused_222 l1 x3 q4.2) (
        f_L_refused_274 l1 x3 q4.2)))
def ok_L_refused_187  (l1 : Int64) (x3 : Int32) (y0 : Int32) (σ : Sg) : Prop :=
  ((y0 = 0) →
    ok_L_refused_274 l1 x3 σ) ∧ (¬ (y0 = 0) →
    (ok_X5_count 0 σ) ∧ (((9999 ≤ (f_X5_count 0 σ)) →
      ok_L_refused_222 l1 x3 σ) ∧ (¬ (9999 ≤ (f_X5_count 0 σ)) →
      (ok_X5_count 0 σ) ∧ ((ok_X5_turn ((-(f_X5_count 0 σ)) - 1) σ) ∧ (let q4 := f_X5_turn ((-(f_X5_count 0 σ)) - 1) σ
      ((q4.1 = (-2)) →
        ok_L_refused_222 l1 x3 q4.2) ∧ (¬ (q4.1 = (-2)) →
        ok_L_refused_274 l1 x3 q4.2))))))
noncomputable def f_L_refused_186  (l1 : Int64) (x3 : Int32) (σ : Sg) : Int32 × Sg :=
  f_L_refused_187 l1 x3 0 σ
def ok_L_refused_186  (l1 : Int64) (x3 : Int32) (σ : Sg) : Prop :=
  ok_L_refused_187 l1 x3 0 σ
noncomputable def f_L_refused  (σ : Sg) : Int32 × Sg :=
  let q4 := f_X5_turn 10000 σ
  o_ite (q4.1 = (-1)) (
    let q6 := f_X5_turn (-10000) q4.2
    o_ite (q6.1 = (-1)) (
      let q8 := f_X5_power (-1) q6.2
      o_ite (q8.1 = (-1)) (
        let q10 := f_X5_brownout 10 q8.2
        o_ite (q10.1 = (-1)) (
          let q12 := f_X5_charge (-1) q10.2
          o_ite (q12.1 = (-1)) (
            let q14 := f_X5_disk 0 0 10 q12.2
            o_ite (q14.1 = (-1)) (
              let q16 := f_X5_noise 0 (-10) q14.2
              o_ite (q16.1 = (-1)) (
                let q18 := f_X5_set 1 33 q16.2
                o_ite (q18.1 = (-1)) (
                  let q20 := f_X5_set (-1) 0 q18.2
                  o_ite (q20.1 = (-1)) (
                    let q22 := f_X5_correct 2 7 (-21) q20.2
                    o_ite (q22.1 = (-1)) (
                      let q24 := f_X5_look 5 q22.2
                      o_ite (q24.1 = (-1)) (
                        let q26 := f_X5_survey 100 0 q24.2
                        o_ite (q26.1 = (-1)) (
                          o_ite ((f_X5_found 0 0 0 (-1) q26.2) = (-1)) (
                            o_ite ((f_X5_byTwo 1 0 1 0 q26.2) = (-1)) (
                              let q30 := f_X5_type 10 q26.2
                              o_ite (q30.1 = (-1)) (
                                let q32 := f_X5_fault 3 q30.2
                                o_ite (q32.1 = (-1)) (
                                  f_L_refused_187 (f_L_sum σ) (f_X5_count 10 σ) 1 q32.2) (
                                  f_L_refused_186 (f_L_sum σ) (f_X5_count 10 σ) q32.2)) (
                                f_L_refused_186 (f_L_sum σ) (f_X5_count 10 σ) q30.2)) (
                              f_L_refused_186 (f_L_sum σ) (f_X5_count 10 σ) q26.2)) (
                            f_L_refused_186 (f_L_sum σ) (f_X5_count 10 σ) q26.2)) (
                          f_L_refused_186 (f_L_sum σ) (f_X5_count 10 σ) q26.2)) (
                        f_L_refused_186 (f_L_sum σ) (f_X5_count 10 σ) q24.2)) (
                      f_L_refused_186 (f_L_sum σ) (f_X5_count 10 σ) q22.2)) (
                    f_L_refused_186 (f_L_sum σ) (f_X5_count 10 σ) q20.2)) (
                  f_L_refused_186 (f_L_sum σ) (f_X5_count 10 σ) q18.2)) (
                f_L_refused_186 (f_L_sum σ) (f_X5_count 10 σ) q16.2)) (
              f_L_refused_186 (f_L_sum σ) (f_X5_count 10 σ) q14.2)) (
            f_L_refused_186 (f_L_sum σ) (f_X5_count 10 σ) q12.2)) (
          f_L_refused_186 (f_L_sum σ) (f_X5_count 10 σ) q10.2)) (
        f_L_refused_186 (f_L_sum σ) (f_X5_count 10 σ) q8.2)) (
      f_L_refused_186 (f_L_sum σ) (f_X5_count 10 σ) q6.2)) (
    f_L_refused_186 (f_L_sum σ) (f_X5_count 10 σ) q4.2)
def ok_L_refused  (σ : Sg) : Prop :=
  (ok_L_sum σ) ∧ ((ok_X5_count 10 σ) ∧ ((ok_X5_turn 10000 σ) ∧ (let q4 := f_X5_turn 10000 σ
  ((q4.1 = (-1)) →
    (ok_X5_turn (-10000) q4.2) ∧ (let q6 := f_X5_turn (-10000) q4.2
    ((q6.1 = (-1)) →
      (ok_X5_power (-1) q6.2) ∧ (let q8 := f_X5_power (-1) q6.2
      ((q8.1 = (-1)) →
        (ok_X5_brownout 10 q8.2) ∧ (let q10 := f_X5_brownout 10 q8.2
        ((q10.1 = (-1)) →
          (ok_X5_charge (-1) q10.2) ∧ (let q12 := f_X5_charge (-1) q10.2
          ((q12.1 = (-1)) →
            (ok_X5_disk 0 0 10 q12.2) ∧ (let q14 := f_X5_disk 0 0 10 q12.2
            ((q14.1 = (-1)) →
              (ok_X5_noise 0 (-10) q14.2) ∧ (let q16 := f_X5_noise 0 (-10) q14.2
              ((q16.1 = (-1)) →
                (ok_X5_set 1 33 q16.2) ∧ (let q18 := f_X5_set 1 33 q16.2
                ((q18.1 = (-1)) →
                  (ok_X5_set (-1) 0 q18.2) ∧ (let q20 := f_X5_set (-1) 0 q18.2
                  ((q20.1 = (-1)) →
                    (ok_X5_correct 2 7 (-21) q20.2) ∧ (let q22 := f_X5_correct 2 7 (-21) q20.2
                    ((q22.1 = (-1)) →
                      (ok_X5_look 5 q22.2) ∧ (let q24 := f_X5_look 5 q22.2
                      ((q24.1 = (-1)) →
                        (ok_X5_survey 100 0 q24.2) ∧ (let q26 := f_X5_survey 100 0 q24.2
                        ((q26.1 = (-1)) →
                          (ok_X5_found 0 0 0 (-1) q26.2) ∧ ((((f_X5_found 0 0 0 (-1) q26.2) = (-1)) →
                            (ok_X5_byTwo 1 0 1 0 q26.2) ∧ ((((f_X5_byTwo 1 0 1 0 q26.2) = (-1)) →
                              (ok_X5_type 10 q26.2) ∧ (let q30 := f_X5_type 10 q26.2
                              ((q30.1 = (-1)) →
                                (ok_X5_fault 3 q30.2) ∧ (let q32 := f_X5_fault 3 q30.2
                                ((q32.1 = (-1)) →
                                  ok_L_refused_187 (f_L_sum σ) (f_X5_count 10 σ) 1 q32.2) ∧ (¬ (q32.1 = (-1)) →
                                  ok_L_refused_186 (f_L_sum σ) (f_X5_count 10 σ) q32.2))) ∧ (¬ (q30.1 = (-1)) →
                                ok_L_refused_186 (f_L_sum σ) (f_X5_count 10 σ) q30.2))) ∧ (¬ ((f_X5_byTwo 1 0 1 0 q26.2) = (-1)) →
                              ok_L_refused_186 (f_L_sum σ) (f_X5_count 10 σ) q26.2))) ∧ (¬ ((f_X5_found 0 0 0 (-1) q26.2) = (-1)) →
                            ok_L_refused_186 (f_L_sum σ) (f_X5_count 10 σ) q26.2))) ∧ (¬ (q26.1 = (-1)) →
                          ok_L_refused_186 (f_L_sum σ) (f_X5_count 10 σ) q26.2))) ∧ (¬ (q24.1 = (-1)) →
                        ok_L_refused_186 (f_L_sum σ) (f_X5_count 10 σ) q24.2))) ∧ (¬ (q22.1 = (-1)) →
                      ok_L_refused_186 (f_L_sum σ) (f_X5_count 10 σ) q22.2))) ∧ (¬ (q20.1 = (-1)) →
                    ok_L_refused_186 (f_L_sum σ) (f_X5_count 10 σ) q20.2))) ∧ (¬ (q18.1 = (-1)) →
                  ok_L_refused_186 (f_L_sum σ) (f_X5_count 10 σ) q18.2))) ∧ (¬ (q16.1 = (-1)) →
                ok_L_refused_186 (f_L_sum σ) (f_X5_count 10 σ) q16.2))) ∧ (¬ (q14.1 = (-1)) →
              ok_L_refused_186 (f_L_sum σ) (f_X5_count 10 σ) q14.2))) ∧ (¬ (q12.1 = (-1)) →
            ok_L_refused_186 (f_L_sum σ) (f_X5_count 10 σ) q12.2))) ∧ (¬ (q10.1 = (-1)) →
          ok_L_refused_186 (f_L_sum σ) (f_X5_count 10 σ) q10.2))) ∧ (¬ (q8.1 = (-1)) →
        ok_L_refused_186 (f_L_sum σ) (f_X5_count 10 σ) q8.2))) ∧ (¬ (q6.1 = (-1)) →
      ok_L_refused_186 (f_L_sum σ) (f_X5_count 10 σ) q6.2))) ∧ (¬ (q4.1 = (-1)) →
    ok_L_refused_186 (f_L_sum σ) (f_X5_count 10 σ) q4.2))))
set_option maxHeartbeats 4000000 in
set_option maxRecDepth 100000 in
theorem t_L_refused_275 {p : Program} {l : Launch} {e : Env} {s : State} {m : MethodId} {args : Array Value} {below : List Frame} {meth : Method} {c : Code} {G : Gt} {post : Int32 → Sg → Prop}   (hc : o_Cx p s m args meth c G cL_refused yL_refused.cls 5) (hr : meth.sig.returnType = (some .boolean)) {l1 : Int64} {x3 : Int32} {y0 : Int32} {σ : Sg} (hok : ok_L_refused_275  l1 x3 y0 σ) (hq : ∀ q : Int32 × Sg, q = f_L_refused_275  l1 x3 y0 σ → post q.1 q.2) : o_V p l e { frames := 7, cells := 0, slots := 0, locals := 171 } s m args below meth c (MQ below (va_Qi post (fun σ' t => o_W G σ' t.heap) (o_A G)) args s 0 0 (o_A G)) G 0 0 5 σ 275 [(0, .ref (gAd G 0)), (1, .long l1), (3, .int x3)] [.int y0] := by
  refine r_istore (pc := 275) (lv' := [(4, _), (0, _), (1, _), (3, _)]) hc dL_refused_275 (by decide) rfl ?_
  refine r_iload (pc := 277) hc 0 dL_refused_277 rfl ?_
  refine r_if_eq (pc := 279) (tgt := 305) hc dL_refused_279 (by decide) (fun c279 => ?_) (fun c279 => ?_)
  · have hok := hok.1 c279
    have hq := o_qp hq c279
    refine r_iconst (pc := 305) (v := 0) hc dL_refused_305 rfl ?_
    exact r_iret hc hr rfl dL_refused_306 (hq (_, _) rfl)
  · have hok := hok.2 c279
    have hq := o_qn hq c279
    refine r_aload_n (pc := 282) hc 1 dL_refused_282 rfl rfl ?_
    obtain ⟨hs1, hok⟩ := hok
    refine r_callS_l (pc := 283) (as := [.ref (gAd G _)]) hc (c_L_sum l _ hs1) mS_L_sum kM_L_37 ⟨Nat.le_of_ble_eq_true rfl, Nat.le_of_ble_eq_true rfl⟩ ⟨Nat.le_of_ble_eq_true rfl, Nat.le_of_ble_eq_true rfl⟩ rfl rfl (Nat.le_of_ble_eq_true rfl) dL_refused_283 (fun r σ' h => ?_)
    obtain ⟨rfl, rfl⟩ := h
    refine r_lload_n (pc := 286) hc 2 dL_refused_286 rfl rfl ?_
    refine r_lcmp (pc := 287) hc dL_refused_287 ?_
    refine r_if_ne (pc := 288) (tgt := 305) hc dL_refused_288 (by decide) (fun c288 => ?_) (fun c288 => ?_)
    · have hok := hok.2 c288
      have hq := o_qn hq c288
      refine r_iconst (pc := 305) (v := 0) hc dL_refused_305 rfl ?_
      exact r_iret hc hr rfl dL_refused_306 (hq (_, _) rfl)
    · have hok := hok.1 c288
      have hq := o_qp hq c288
      refine r_aload_n (pc := 291) hc 1 dL_refused_291 rfl rfl ?_
      refine r_bipush (pc := 292) (v := 10) hc dL_refused_292 (by decide) ?_
      obtain ⟨hs2, hok⟩ := hok
      refine r_callV_i (pc := 294) (as := [.int _]) hc (c_X5_count l _ hs2) kk5 (o_lt hc (by decide)) rfl mV_X5_count kM_L_19 ⟨Nat.le_of_ble_eq_true rfl, Nat.le_of_ble_eq_true rfl⟩ ⟨Nat.le_of_ble_eq_true rfl, Nat.le_of_ble_eq_true rfl⟩ rfl rfl (Nat.le_of_ble_eq_true rfl) dL_refused_294 (fun r σ' h => ?_)
      obtain ⟨rfl, rfl⟩ := h
      refine r_iload_n (pc := 297) hc 3 dL_refused_297 rfl rfl ?_
      refine r_icmp_ne (pc := 298) (tgt := 305) hc dL_refused_298 (by decide) (fun c298 => ?_) (fun c298 => ?_)
      · have hok := hok.2 c298
        have hq := o_qn hq c298
        refine r_iconst (pc := 305) (v := 0) hc dL_refused_305 rfl ?_
        exact r_iret hc hr rfl dL_refused_306 (hq (_, _) rfl)
      · have hok := hok.1 c298
        have hq := o_qp hq c298
        refine r_iconst (pc := 301) (v := 1) hc dL_refused_301 rfl ?_
        refine r_goto (pc := 302) (tgt := 306) hc dL_refused_302 (by decide) ?_
        exact r_iret hc hr rfl dL_refused_306 (hq (_, _) rfl)
set_option maxHeartbeats 4000000 in
set_option maxRecDepth 100000 in
theorem t_L_refused_274 {p : Program} {l : Launch} {e : Env} {s : State} {m : MethodId} {args : Array Value} {below : List Frame} {meth : Method} {c : Code} {G : Gt} {post : Int32 → Sg → Prop}   (hc : o_Cx p s m args meth c G cL_refused yL_refused.cls 5) (hr : meth.sig.returnType = (some .boolean)) {l1 : Int64} {x3 : Int32} {σ : Sg} (hok : ok_L_refused_274  l1 x3 σ) (hq : ∀ q : Int32 × Sg, q = f_L_refused_274  l1 x3 σ → post q.1 q.2) : o_V p l e { frames := 7, cells := 0, slots := 0, locals := 171 } s m args below meth c (MQ below (va_Qi post (fun σ' t => o_W G σ' t.heap) (o_A G)) args s 0 0 (o_A G)) G 0 0 5 σ 274 [(0, .ref (gAd G 0)), (1, .long l1), (3, .int x3)] [] := by
  refine r_iconst (pc := 274) (v := 0) hc dL_refused_274 rfl ?_
  exact o_V.sub (t_L_refused_275  hc hr hok hq) [0, 1, 2] rfl
set_option maxHeartbeats 4000000 in
set_option maxRecDepth 100000 in
theorem t_L_refused_270 {p : Program} {l : Launch} {e : Env} {s : State} {m : MethodId} {args : Array Value} {below : List Frame} {meth : Method} {c : Code} {G : Gt} {post : Int32 → Sg → Prop}   (hc : o_Cx p s m args meth c G cL_refused yL_refused.cls 5) (hr : meth.sig.returnType = (some .boolean)) {l1 : Int64} {x3 : Int32} {σ : Sg} (hok : ok_L_refused_270  l1 x3 σ) (hq : ∀ q : Int32 × Sg, q = f_L_refused_270  l1 x3 σ → post q.1 q.2) : o_V p l e { frames := 7, cells := 0, slots := 0, locals := 171 } s m args below meth c (MQ below (va_Qi post (fun σ' t => o_W G σ' t.heap) (o_A G)) args s 0 0 (o_A G)) G 0 0 5 σ 270 [(0, .ref (gAd G 0)), (1, .long l1), (3, .int x3)] [] := by
  refine r_iconst (pc := 270) (v := 1) hc dL_refused_270 rfl ?_
  refine r_goto (pc := 271) (tgt := 275) hc dL_refused_271 (by decide) ?_
  exact o_V.sub (t_L_refused_275  hc hr hok hq) [0, 1, 2] rfl
set_option maxHeartbeats 4000000 in
set_option maxRecDepth 100000 in
theorem t_L_refused_249 {p : Program} {l : Launch} {e : Env} {s : State} {m : MethodId} {args : Array Value} {below : List Frame} {meth : Method} {c : Code} {G : Gt} {post : Int32 → Sg → Prop}   (hc : o_Cx p s m args meth c G cL_refused yL_refused.cls 5) (hr : meth.sig.returnType = (some .boolean)) {l1 : Int64} {x3 : Int32} {σ : Sg} (hok : ok_L_refused_249  l1 x3 σ) (hq : ∀ q : Int32 × Sg, q = f_L_refused_249  l1 x3 σ → post q.1 q.2) : o_V p l e { frames := 7, cells := 0, slots := 0, locals := 171 } s m args below meth c (MQ below (va_Qi post (fun σ' t => o_W G σ' t.heap) (o_A G)) args s 0 0 (o_A G)) G 0 0 5 σ 249 [(0, .ref (gAd G 0)), (1, .long l1), (3, .int x3)] [] := by
  refine r_aload_n (pc := 249) hc 0 dL_refused_249 rfl rfl ?_
  refine r_iconst (pc := 250) (v := 5) hc dL_refused_250 rfl ?_
  obtain ⟨hs1, hok⟩ := hok
  refine r_callV_i (pc := 251) (as := [.int _]) hc (c_X5_count l _ hs1) kk5 (o_lt hc (by decide)) rfl mV_X5_count kM_L_19 ⟨Nat.le_of_ble_eq_true rfl, Nat.le_of_ble_eq_true rfl⟩ ⟨Nat.le_of_ble_eq_true rfl, Nat.le_of_ble_eq_true rfl⟩ rfl rfl (Nat.le_of_ble_eq_true rfl) dL_refused_251 (fun r σ' h => ?_)
  obtain ⟨rfl, rfl⟩ := h
  refine r_bipush (pc := 254) (v := 91) hc dL_refused_254 (by decide) ?_
  refine r_icmp_lt (pc := 256) (tgt := 270) hc dL_refused_256 (by decide) (fun c256 => ?_) (fun c256 => ?_)
  · have hok := hok.1 c256
    have hq := o_qp hq c256
    exact o_V.sub (t_L_refused_270  hc hr hok hq) [0, 1, 2] rfl
  · have hok := hok.2 c256
    have hq := o_qn hq c256
    refine r_aload_n (pc := 259) hc 0 dL_refused_259 rfl rfl ?_
    refine r_bipush (pc := 260) (v := 9) hc dL_refused_260 (by decide) ?_
    obtain ⟨hs2, hok⟩ := hok
    refine r_callV_i (pc := 262) (as := [.int _]) hc (c_X5_brownout l _ hs2) kk5 (o_lt hc (by decide)) rfl mV_X5_brownout kM_L_47 ⟨Nat.le_of_ble_eq_true rfl, Nat.le_of_ble_eq_true rfl⟩ ⟨Nat.le_of_ble_eq_true rfl, Nat.le_of_ble_eq_true rfl⟩ rfl rfl (Nat.le_of_ble_eq_true rfl) dL_refused_262 (fun r σ' h => ?_)
    obtain ⟨rfl, rfl⟩ := h
    refine r_bipush (pc := 265) (v := (-3)) hc dL_refused_265 (by decide) ?_
    refine r_icmp_ne (pc := 267) (tgt := 274) hc dL_refused_267 (by decide) (fun c267 => ?_) (fun c267 => ?_)
    · have hok := hok.2 c267
      have hq := o_qn hq c267
      exact o_V.sub (t_L_refused_274  hc hr hok hq) [0, 1, 2] rfl
    · have hok := hok.1 c267
      have hq := o_qp hq c267
      exact o_V.sub (t_L_refused_270  hc hr hok hq) [0, 1, 2] rfl
set_option maxHeartbeats 4000000 in
set_option maxRecDepth 100000 in
theorem t_L_refused_222 {p : Program} {l : Launch} {e : Env} {s : State} {m : MethodId} {args : Array Value} {below : List Frame} {meth : Method} {c : Code} {G : Gt} {post : Int32 → Sg → Prop}   (hc : o_Cx p s m args meth c G cL_refused yL_refused.cls 5) (hr : meth.sig.returnType = (some .boolean)) {l1 : Int64} {x3 : Int32} {σ : Sg} (hok : ok_L_refused_222  l1 x3 σ) (hq : ∀ q : Int32 × Sg, q = f_L_refused_222  l1 x3 σ → post q.1 q.2) : o_V p l e { frames := 7, cells := 0, slots := 0, locals := 171 } s m args below meth c (MQ below (va_Qi post (fun σ' t => o_W G σ' t.heap) (o_A G)) args s 0 0 (o_A G)) G 0 0 5 σ 222 [(0, .ref (gAd G 0)), (1, .long l1), (3, .int x3)] [] := by
  refine r_aload_n (pc := 222) hc 0 dL_refused_222 rfl rfl ?_
  refine r_iconst (pc := 223) (v := 3) hc dL_refused_223 rfl ?_
  obtain ⟨hs1, hok⟩ := hok
  refine r_callV_i (pc := 224) (as := [.int _]) hc (c_X5_count l _ hs1) kk5 (o_lt hc (by decide)) rfl mV_X5_count kM_L_19 ⟨Nat.le_of_ble_eq_true rfl, Nat.le_of_ble_eq_true rfl⟩ ⟨Nat.le_of_ble_eq_true rfl, Nat.le_of_ble_eq_true rfl⟩ rfl rfl (Nat.le_of_ble_eq_true rfl) dL_refused_224 (fun r σ' h => ?_)
  obtain ⟨rfl, rfl⟩ := h
  refine r_iconst (pc := 227) (v := 1) hc dL_refused_227 rfl ?_
  refine r_icmp_eq (pc := 228) (tgt := 249) hc dL_refused_228 (by decide) (fun c228 => ?_) (fun c228 => ?_)
  · have hok := hok.1 c228
    have hq := o_qp hq c228
    exact o_V.sub (t_L_refused_249  hc hr hok hq) [0, 1, 2] rfl
  · have hok := hok.2 c228
    have hq := o_qn hq c228
    refine r_aload_n (pc := 231) hc 0 dL_refused_231 rfl rfl ?_
    obtain ⟨hs2, hok⟩ := hok
    refine r_callV_i (pc := 232) (as := []) hc (c_X5_sample l _ hs2) kk5 (o_lt hc (by decide)) rfl mV_X5_sample kM_L_85 ⟨Nat.le_of_ble_eq_true rfl, Nat.le_of_ble_eq_true rfl⟩ ⟨Nat.le_of_ble_eq_true rfl, Nat.le_of_ble_eq_true rfl⟩ rfl rfl (Nat.le_of_ble_eq_true rfl) dL_refused_232 (fun r σ' h => ?_)
    obtain ⟨rfl, rfl⟩ := h
    refine r_bipush (pc := 235) (v := (-2)) hc dL_refused_235 (by decide) ?_
    refine r_icmp_ne (pc := 237) (tgt := 274) hc dL_refused_237 (by decide) (fun c237 => ?_) (fun c237 => ?_)
    · have hok := hok.2 c237
      have hq := o_qn hq c237
      exact o_V.sub (t_L_refused_274  hc hr hok hq) [0, 1, 2] rfl
    · have hok := hok.1 c237
      have hq := o_qp hq c237
      refine r_aload_n (pc := 240) hc 0 dL_refused_240 rfl rfl ?_
      obtain ⟨hs4, hok⟩ := hok
      refine r_callV_i (pc := 241) (as := []) hc (c_X5_reason l _ hs4) kk5 (o_lt hc (by decide)) rfl mV_X5_reason kM_L_88 ⟨Nat.le_of_ble_eq_true rfl, Nat.le_of_ble_eq_true rfl⟩ ⟨Nat.le_of_ble_eq_true rfl, Nat.le_of_ble_eq_true rfl⟩ rfl rfl (Nat.le_of_ble_eq_true rfl) dL_refused_241 (fun r σ' h => ?_)
      obtain ⟨rfl, rfl⟩ := h
      refine r_bipush (pc := 244) (v := (-2)) hc dL_refused_244 (by decide) ?_
      refine r_icmp_ne (pc := 246) (tgt := 274) hc dL_refused_246 (by decide) (fun c246 => ?_) (fun c246 => ?_)
      · have hok := hok.2 c246
        have hq := o_qn hq c246
        exact o_V.sub (t_L_refused_274  hc hr hok hq) [0, 1, 2] rfl
      · have hok := hok.1 c246
        have hq := o_qp hq c246
        exact o_V.sub (t_L_refused_249  hc hr hok hq) [0, 1, 2] rfl
set_option maxHeartbeats 4000000 in
set_option maxRecDepth 100000 in
theorem t_L_refused_187 {p : Program} {l : Launch} {e : Env} {s : State} {m : MethodId} {args : Array Value} {below : List Frame} {meth : Method} {c : Code} {G : Gt} {post : Int32 → Sg → Prop}   (hc : o_Cx p s m args meth c G cL_refused yL_refused.cls 5) (hr : meth.sig.returnType = (some .boolean)) {l1 : Int64} {x3 : Int32} {y0 : Int32} {σ : Sg} (hok : ok_L_refused_187  l1 x3 y0 σ) (hq : ∀ q : Int32 × Sg, q = f_L_refused_187  l1 x3 y0 σ → post q.1 q.2) : o_V p l e { frames := 7, cells := 0, slots := 0, locals := 171 } s m args below meth c (MQ below (va_Qi post (fun σ' t => o_W G σ' t.heap) (o_A G)) args s 0 0 (o_A G)) G 0 0 5 σ 187 [(0, .ref (gAd G 0)), (1, .long l1), (3, .int x3)] [.int y0] := by
  refine r_istore (pc := 187) (lv' := [(4, _), (0, _), (1, _), (3, _)]) hc dL_refused_187 (by decide) rfl ?_
  refine r_iload (pc := 189) hc 0 dL_refused_189 rfl ?_
  refine r_if_eq (pc := 191) (tgt := 274) hc dL_refused_191 (by decide) (fun c191 => ?_) (fun c191 => ?_)
  · have hok := hok.1 c191
    have hq := o_qp hq c191
    exact o_V.sub (t_L_refused_274  hc hr hok hq) [1, 2, 3] rfl
  · have hok := hok.2 c191
    have hq := o_qn hq c191
    refine r_aload_n (pc := 194) hc 1 dL_refused_194 rfl rfl ?_
    refine r_iconst (pc := 195) (v := 0) hc dL_refused_195 rfl ?_
    obtain ⟨hs1, hok⟩ := hok
    refine r_callV_i (pc := 196) (as := [.int _]) hc (c_X5_count l _ hs1) kk5 (o_lt hc (by decide)) rfl mV_X5_count kM_L_19 ⟨Nat.le_of_ble_eq_true rfl, Nat.le_of_ble_eq_true rfl⟩ ⟨Nat.le_of_ble_eq_true rfl, Nat.le_of_ble_eq_true rfl⟩ rfl rfl (Nat.le_of_ble_eq_true rfl) dL_refused_196 (fun r σ' h => ?_)
    obtain ⟨rfl, rfl⟩ := h
    refine r_sipush (pc := 199) (v := 9999) hc dL_refused_199 (by decide) ?_
    refine r_icmp_ge (pc := 202) (tgt := 222) hc dL_refused_202 (by decide) (fun c202 => ?_) (fun c202 => ?_)
    · have hok := hok.1 c202
      have hq := o_qp hq c202
      exact o_V.sub (t_L_refused_222  hc hr hok hq) [1, 2, 3] rfl
    · have hok := hok.2 c202
      have hq := o_qn hq c202
      refine r_aload_n (pc := 205) hc 1 dL_refused_205 rfl rfl ?_
      refine r_aload_n (pc := 206) hc 1 dL_refused_206 rfl rfl ?_
      refine r_iconst (pc := 207) (v := 0) hc dL_refused_207 rfl ?_
      obtain ⟨hs2, hok⟩ := hok
      refine r_callV_i (pc := 208) (as := [.int _]) hc (c_X5_count l _ hs2) kk5 (o_lt hc (by decide)) rfl mV_X5_count kM_L_19 ⟨Nat.le_of_ble_eq_true rfl, Nat.le_of_ble_eq_true rfl⟩ ⟨Nat.le_of_ble_eq_true rfl, Nat.le_of_ble_eq_true rfl⟩ rfl rfl (Nat.le_of_ble_eq_true rfl) dL_refused_208 (fun r σ' h => ?_)
      obtain ⟨rfl, rfl⟩ := h
      refine r_ineg (pc := 211) hc dL_refused_211 ?_
      refine r_iconst (pc := 212) (v := 1) hc dL_refused_212 rfl ?_
      refine r_isub (pc := 213) hc dL_refused_213 ?_
      obtain ⟨hs3, hok⟩ := hok
      refine r_callV_i (pc := 214) (as := [.int _]) hc (c_X5_turn l _ hs3) kk5 (o_lt hc (by decide)) rfl mV_X5_turn kM_L_41 ⟨Nat.le_of_ble_eq_true rfl, Nat.le_of_ble_eq_true rfl⟩ ⟨Nat.le_of_ble_eq_true rfl, Nat.le_of_ble_eq_true rfl⟩ rfl rfl (Nat.le_of_ble_eq_true rfl) dL_refused_214 (fun r σ' h => ?_)
      obtain ⟨rfl, rfl⟩ := h
      refine r_bipush (pc := 217) (v := (-2)) hc dL_refused_217 (by decide) ?_
      refine r_icmp_ne (pc := 219) (tgt := 274) hc dL_refused_219 (by decide) (fun c219 => ?_) (fun c219 => ?_)
      · have hok := hok.2 c219
        have hq := o_qn hq c219
        exact o_V.sub (t_L_refused_274  hc hr hok hq) [1, 2, 3] rfl
      · have hok := hok.1 c219
        have hq := o_qp hq c219
        exact o_V.sub (t_L_refused_222  hc hr hok hq) [1, 2, 3] rfl
set_option maxHeartbeats 4000000 in
set_option maxRecDepth 100000 in
theorem t_L_refused_186 {p : Program} {l : Launch} {e : Env} {s : State} {m : MethodId} {args : Array Value} {below : List Frame} {meth : Method} {c : Code} {G : Gt} {post : Int32 → Sg → Prop}   (hc : o_Cx p s m args meth c G cL_refused yL_refused.cls 5) (hr : meth.sig.returnType = (some .boolean)) {l1 : Int64} {x3 : Int32} {σ : Sg} (hok : ok_L_refused_186  l1 x3 σ) (hq : ∀ q : Int32 × Sg, q = f_L_refused_186  l1 x3 σ → post q.1 q.2) : o_V p l e { frames := 7, cells := 0, slots := 0, locals := 171 } s m args below meth c (MQ below (va_Qi post (fun σ' t => o_W G σ' t.heap) (o_A G)) args s 0 0 (o_A G)) G 0 0 5 σ 186 [(0, .ref (gAd G 0)), (1, .long l1), (3, .int x3)] [] := by
  refine r_iconst (pc := 186) (v := 0) hc dL_refused_186 rfl ?_
  exact o_V.sub (t_L_refused_187  hc hr hok hq) [0, 1, 2] rfl
set_option maxHeartbeats 4000000 in
set_option maxRecDepth 100000 in
theorem c_L_refused (l : Launch) (G : Gt)   {σ : Sg} (hok : ok_L_refused  σ) : o_Ci l G yL_refused cL_refused 5 (some .boolean) 7 171 [.ref (gAd G 0)] σ (fun r σ' => r = (f_L_refused  σ).1 ∧ σ' = (f_L_refused  σ).2) := by
  refine o_Ci.of (by decide +kernel) (Nat.le_of_ble_eq_true rfl) ?_
  intro p e s m args below meth c hc hr
  have hq : ∀ q : Int32 × Sg, q = f_L_refused  σ → (fun r σ' => r = (f_L_refused  σ).1 ∧ σ' = (f_L_refused  σ).2) q.1 q.2 := fun q h => ⟨congrArg Prod.fst h, congrArg Prod.snd h⟩
  refine r_aload_n (pc := 0) hc 0 dL_refused_0 rfl rfl ?_
  obtain ⟨hs1, hok⟩ := hok
  refine r_callS_l (pc := 1) (as := [.ref (gAd G _)]) hc (c_L_sum l _ hs1) mS_L_sum kM_L_37 ⟨Nat.le_of_ble_eq_true rfl, Nat.le_of_ble_eq_true rfl⟩ ⟨Nat.le_of_ble_eq_true rfl, Nat.le_of_ble_eq_true rfl⟩ rfl rfl (Nat.le_of_ble_eq_true rfl) dL_refused_1 (fun r σ' h => ?_)
  obtain ⟨rfl, rfl⟩ := h
  refine r_lstore_n (pc := 4) (lv' := [(1, _), (0, _)]) hc dL_refused_4 rfl (by decide) rfl ?_
  refine r_aload_n (pc := 5) hc 1 dL_refused_5 rfl rfl ?_
  refine r_bipush (pc := 6) (v := 10) hc dL_refused_6 (by decide) ?_
  obtain ⟨hs2, hok⟩ := hok
  refine r_callV_i (pc := 8) (as := [.int _]) hc (c_X5_count l _ hs2) kk5 (o_lt hc (by decide)) rfl mV_X5_count kM_L_19 ⟨Nat.le_of_ble_eq_true rfl, Nat.le_of_ble_eq_true rfl⟩ ⟨Nat.le_of_ble_eq_true rfl, Nat.le_of_ble_eq_true rfl⟩ rfl rfl (Nat.le_of_ble_eq_true rfl) dL_refused_8 (fun r σ' h => ?_)
  obtain ⟨rfl, rfl⟩ := h
  refine r_istore_n (pc := 11) (lv' := [(3, _), (1, _), (0, _)]) hc dL_refused_11 rfl (by decide) rfl ?_
  refine r_aload_n (pc := 12) hc 2 dL_refused_12 rfl rfl ?_
  refine r_sipush (pc := 13) (v := 10000) hc dL_refused_13 (by decide) ?_
  obtain ⟨hs3, hok⟩ := hok
  refine r_callV_i (pc := 16) (as := [.int _]) hc (c_X5_turn l _ hs3) kk5 (o_lt hc (by decide)) rfl mV_X5_turn kM_L_41 ⟨Nat.le_of_ble_eq_true rfl, Nat.le_of_ble_eq_true rfl⟩ ⟨Nat.le_of_ble_eq_true rfl, Nat.le_of_ble_eq_true rfl⟩ rfl rfl (Nat.le_of_ble_eq_true rfl) dL_refused_16 (fun r σ' h => ?_)
  obtain ⟨rfl, rfl⟩ := h
  refine r_iconst (pc := 19) (v := (-1)) hc dL_refused_19 rfl ?_
  refine r_icmp_ne (pc := 20) (tgt := 186) hc dL_refused_20 (by decide) (fun c20 => ?_) (fun c20 => ?_)
  · have hok := hok.2 c20
    have hq := o_qn hq c20
    exact o_V.sub (t_L_refused_186  hc hr hok hq) [2, 1, 0] rfl
  · have hok := hok.1 c20
    have hq := o_qp hq c20
    refine r_aload_n (pc := 23) hc 2 dL_refused_23 rfl rfl ?_
    refine r_sipush (pc := 24) (v := (-10000)) hc dL_refused_24 (by decide) ?_
    obtain ⟨hs5, hok⟩ := hok
    refine r_callV_i (pc := 27) (as := [.int _]) hc (c_X5_turn l _ hs5) kk5 (o_lt hc (by decide)) rfl mV_X5_turn kM_L_41 ⟨Nat.le_of_ble_eq_true rfl, Nat.le_of_ble_eq_true rfl⟩ ⟨Nat.le_of_ble_eq_true rfl, Nat.le_of_ble_eq_true rfl⟩ rfl rfl (Nat.le_of_ble_eq_true rfl) dL_refused_27 (fun r σ' h => ?_)
    obtain ⟨rfl, rfl⟩ := h
    refine r_iconst (pc := 30) (v := (-1)) hc dL_refused_30 rfl ?_
    refine r_icmp_ne (pc := 31) (tgt := 186) hc dL_refused_31 (by decide) (fun c31 => ?_) (fun c31 => ?_)
    · have hok := hok.2 c31
      have hq := o_qn hq c31
      exact o_V.sub (t_L_refused_186  hc hr hok hq) [2, 1, 0] rfl
    · have hok := hok.1 c31
      have hq := o_qp hq c31
      refine r_aload_n (pc := 34) hc 2 dL_refused_34 rfl rfl ?_
      refine r_iconst (pc := 35) (v := (-1)) hc dL_refused_35 rfl ?_
      obtain ⟨hs7, hok⟩ := hok
      refine r_callV_i (pc := 36) (as := [.int _]) hc (c_X5_power l _ hs7) kk5 (o_lt hc (by decide)) rfl mV_X5_power kM_L_44 ⟨Nat.le_of_ble_eq_true rfl, Nat.le_of_ble_eq_true rfl⟩ ⟨Nat.le_of_ble_eq_true rfl, Nat.le_of_ble_eq_true rfl⟩ rfl rfl (Nat.le_of_ble_eq_true rfl) dL_refused_36 (fun r σ' h => ?_)
      obtain ⟨rfl, rfl⟩ := h
      refine r_iconst (pc := 39) (v := (-1)) hc dL_refused_39 rfl ?_
      refine r_icmp_ne (pc := 40) (tgt := 186) hc dL_refused_40 (by decide) (fun c40 => ?_) (fun c40 => ?_)
      · have hok := hok.2 c40
        have hq := o_qn hq c40
        exact o_V.sub (t_L_refused_186  hc hr hok hq) [2, 1, 0] rfl
      · have hok := hok.1 c40
        have hq := o_qp hq c40
        refine r_aload_n (pc := 43) hc 2 dL_refused_43 rfl rfl ?_
        refine r_bipush (pc := 44) (v := 10) hc dL_refused_44 (by decide) ?_
        obtain ⟨hs9, hok⟩ := hok
        refine r_callV_i (pc := 46) (as := [.int _]) hc (c_X5_brownout l _ hs9) kk5 (o_lt hc (by decide)) rfl mV_X5_brownout kM_L_47 ⟨Nat.le_of_ble_eq_true rfl, Nat.le_of_ble_eq_true rfl⟩ ⟨Nat.le_of_ble_eq_true rfl, Nat.le_of_ble_eq_true rfl⟩ rfl rfl (Nat.le_of_ble_eq_true rfl) dL_refused_46 (fun r σ' h => ?_)
        obtain ⟨rfl, rfl⟩ := h
        refine r_iconst (pc := 49) (v := (-1)) hc dL_refused_49 rfl ?_
        refine r_icmp_ne (pc := 50) (tgt := 186) hc dL_refused_50 (by decide) (fun c50 => ?_) (fun c50 => ?_)
        · have hok := hok.2 c50
          have hq := o_qn hq c50
          exact o_V.sub (t_L_refused_186  hc hr hok hq) [2, 1, 0] rfl
        · have hok := hok.1 c50
          have hq := o_qp hq c50
          refine r_aload_n (pc := 53) hc 2 dL_refused_53 rfl rfl ?_
          refine r_iconst (pc := 54) (v := (-1)) hc dL_refused_54 rfl ?_
          obtain ⟨hs11, hok⟩ := hok
          refine r_callV_i (pc := 55) (as := [.int _]) hc (c_X5_charge l _ hs11) kk5 (o_lt hc (by decide)) rfl mV_X5_charge kM_L_50 ⟨Nat.le_of_ble_eq_true rfl, Nat.le_of_ble_eq_true rfl⟩ ⟨Nat.le_of_ble_eq_true rfl, Nat.le_of_ble_eq_true rfl⟩ rfl rfl (Nat.le_of_ble_eq_true rfl) dL_refused_55 (fun r σ' h => ?_)
          obtain ⟨rfl, rfl⟩ := h
          refine r_iconst (pc := 58) (v := (-1)) hc dL_refused_58 rfl ?_
          refine r_icmp_ne (pc := 59) (tgt := 186) hc dL_refused_59 (by decide) (fun c59 => ?_) (fun c59 => ?_)
          · have hok := hok.2 c59
            have hq := o_qn hq c59
            exact o_V.sub (t_L_refused_186  hc hr hok hq) [2, 1, 0] rfl
          · have hok := hok.1 c59
            have hq := o_qp hq c59
            refine r_aload_n (pc := 62) hc 2 dL_refused_62 rfl rfl ?_
            refine r_iconst (pc := 63) (v := 0) hc dL_refused_63 rfl ?_
            refine r_iconst (pc := 64) (v := 0) hc dL_refused_64 rfl ?_
            refine r_bipush (pc := 65) (v := 10) hc dL_refused_65 (by decide) ?_
            obtain ⟨hs13, hok⟩ := hok
            refine r_callV_i (pc := 67) (as := [.int _, .int _, .int _]) hc (c_X5_disk l _ hs13) kk5 (o_lt hc (by decide)) rfl mV_X5_disk kM_L_53 ⟨Nat.le_of_ble_eq_true rfl, Nat.le_of_ble_eq_true rfl⟩ ⟨Nat.le_of_ble_eq_true rfl, Nat.le_of_ble_eq_true rfl⟩ rfl rfl (Nat.le_of_ble_eq_true rfl) dL_refused_67 (fun r σ' h => ?_)
            obtain ⟨rfl, rfl⟩ := h
            refine r_iconst (pc := 70) (v := (-1)) hc dL_refused_70 rfl ?_
            refine r_icmp_ne (pc := 71) (tgt := 186) hc dL_refused_71 (by decide) (fun c71 => ?_) (fun c71 => ?_)
            · have hok := hok.2 c71
              have hq := o_qn hq c71
              exact o_V.sub (t_L_refused_186  hc hr hok hq) [2, 1, 0] rfl
            · have hok := hok.1 c71
              have hq := o_qp hq c71
              refine r_aload_n (pc := 74) hc 2 dL_refused_74 rfl rfl ?_
              refine r_iconst (pc := 75) (v := 0) hc dL_refused_75 rfl ?_
              refine r_bipush (pc := 76) (v := (-10)) hc dL_refused_76 (by decide) ?_
              obtain ⟨hs15, hok⟩ := hok
              refine r_callV_i (pc := 78) (as := [.int _, .int _]) hc (c_X5_noise l _ hs15) kk5 (o_lt hc (by decide)) rfl mV_X5_noise kM_L_57 ⟨Nat.le_of_ble_eq_true rfl, Nat.le_of_ble_eq_true rfl⟩ ⟨Nat.le_of_ble_eq_true rfl, Nat.le_of_ble_eq_true rfl⟩ rfl rfl (Nat.le_of_ble_eq_true rfl) dL_refused_78 (fun r σ' h => ?_)
              obtain ⟨rfl, rfl⟩ := h
              refine r_iconst (pc := 81) (v := (-1)) hc dL_refused_81 rfl ?_
              refine r_icmp_ne (pc := 82) (tgt := 186) hc dL_refused_82 (by decide) (fun c82 => ?_) (fun c82 => ?_)
              · have hok := hok.2 c82
                have hq := o_qn hq c82
                exact o_V.sub (t_L_refused_186  hc hr hok hq) [2, 1, 0] rfl
              · have hok := hok.1 c82
                have hq := o_qp hq c82
                refine r_aload_n (pc := 85) hc 2 dL_refused_85 rfl rfl ?_
                refine r_iconst (pc := 86) (v := 1) hc dL_refused_86 rfl ?_
                refine r_bipush (pc := 87) (v := 33) hc dL_refused_87 (by decide) ?_
                obtain ⟨hs17, hok⟩ := hok
                refine r_callV_i (pc := 89) (as := [.int _, .int _]) hc (c_X5_set l _ hs17) kk5 (o_lt hc (by decide)) rfl mV_X5_set kM_L_60 ⟨Nat.le_of_ble_eq_true rfl, Nat.le_of_ble_eq_true rfl⟩ ⟨Nat.le_of_ble_eq_true rfl, Nat.le_of_ble_eq_true rfl⟩ rfl rfl (Nat.le_of_ble_eq_true rfl) dL_refused_89 (fun r σ' h => ?_)
                obtain ⟨rfl, rfl⟩ := h
                refine r_iconst (pc := 92) (v := (-1)) hc dL_refused_92 rfl ?_
                refine r_icmp_ne (pc := 93) (tgt := 186) hc dL_refused_93 (by decide) (fun c93 => ?_) (fun c93 => ?_)
                · have hok := hok.2 c93
                  have hq := o_qn hq c93
                  exact o_V.sub (t_L_refused_186  hc hr hok hq) [2, 1, 0] rfl
                · have hok := hok.1 c93
                  have hq := o_qp hq c93
                  refine r_aload_n (pc := 96) hc 2 dL_refused_96 rfl rfl ?_
                  refine r_iconst (pc := 97) (v := (-1)) hc dL_refused_97 rfl ?_
                  refine r_iconst (pc := 98) (v := 0) hc dL_refused_98 rfl ?_
                  obtain ⟨hs19, hok⟩ := hok
                  refine r_callV_i (pc := 99) (as := [.int _, .int _]) hc (c_X5_set l _ hs19) kk5 (o_lt hc (by decide)) rfl mV_X5_set kM_L_60 ⟨Nat.le_of_ble_eq_true rfl, Nat.le_of_ble_eq_true rfl⟩ ⟨Nat.le_of_ble_eq_true rfl, Nat.le_of_ble_eq_true rfl⟩ rfl rfl (Nat.le_of_ble_eq_true rfl) dL_refused_99 (fun r σ' h => ?_)
                  obtain ⟨rfl, rfl⟩ := h
                  refine r_iconst (pc := 102) (v := (-1)) hc dL_refused_102 rfl ?_
                  refine r_icmp_ne (pc := 103) (tgt := 186) hc dL_refused_103 (by decide) (fun c103 => ?_) (fun c103 => ?_)
                  · have hok := hok.2 c103
                    have hq := o_qn hq c103
                    exact o_V.sub (t_L_refused_186  hc hr hok hq) [2, 1, 0] rfl
                  · have hok := hok.1 c103
                    have hq := o_qp hq c103
                    refine r_aload_n (pc := 106) hc 2 dL_refused_106 rfl rfl ?_
                    refine r_iconst (pc := 107) (v := 2) hc dL_refused_107 rfl ?_
                    refine r_bipush (pc := 108) (v := 7) hc dL_refused_108 (by decide) ?_
                    refine r_bipush (pc := 110) (v := (-21)) hc dL_refused_110 (by decide) ?_
                    obtain ⟨hs21, hok⟩ := hok
                    refine r_callV_i (pc := 112) (as := [.int _, .int _, .int _]) hc (c_X5_correct l _ hs21) kk5 (o_lt hc (by decide)) rfl mV_X5_correct kM_L_63 ⟨Nat.le_of_ble_eq_true rfl, Nat.le_of_ble_eq_true rfl⟩ ⟨Nat.le_of_ble_eq_true rfl, Nat.le_of_ble_eq_true rfl⟩ rfl rfl (Nat.le_of_ble_eq_true rfl) dL_refused_112 (fun r σ' h => ?_)
                    obtain ⟨rfl, rfl⟩ := h
                    refine r_iconst (pc := 115) (v := (-1)) hc dL_refused_115 rfl ?_
                    refine r_icmp_ne (pc := 116) (tgt := 186) hc dL_refused_116 (by decide) (fun c116 => ?_) (fun c116 => ?_)
                    · have hok := hok.2 c116
                      have hq := o_qn hq c116
                      exact o_V.sub (t_L_refused_186  hc hr hok hq) [2, 1, 0] rfl
                    · have hok := hok.1 c116
                      have hq := o_qp hq c116
                      refine r_aload_n (pc := 119) hc 2 dL_refused_119 rfl rfl ?_
                      refine r_iconst (pc := 120) (v := 5) hc dL_refused_120 rfl ?_
                      obtain ⟨hs23, hok⟩ := hok
                      refine r_callV_i (pc := 121) (as := [.int _]) hc (c_X5_look l _ hs23) kk5 (o_lt hc (by decide)) rfl mV_X5_look kM_L_66 ⟨Nat.le_of_ble_eq_true rfl, Nat.le_of_ble_eq_true rfl⟩ ⟨Nat.le_of_ble_eq_true rfl, Nat.le_of_ble_eq_true rfl⟩ rfl rfl (Nat.le_of_ble_eq_true rfl) dL_refused_121 (fun r σ' h => ?_)
                      obtain ⟨rfl, rfl⟩ := h
                      refine r_iconst (pc := 124) (v := (-1)) hc dL_refused_124 rfl ?_
                      refine r_icmp_ne (pc := 125) (tgt := 186) hc dL_refused_125 (by decide) (fun c125 => ?_) (fun c125 => ?_)
                      · have hok := hok.2 c125
                        have hq := o_qn hq c125
                        exact o_V.sub (t_L_refused_186  hc hr hok hq) [2, 1, 0] rfl
                      · have hok := hok.1 c125
                        have hq := o_qp hq c125
                        refine r_aload_n (pc := 128) hc 2 dL_refused_128 rfl rfl ?_
                        refine r_bipush (pc := 129) (v := 100) hc dL_refused_129 (by decide) ?_
                        refine r_iconst (pc := 131) (v := 0) hc dL_refused_131 rfl ?_
                        obtain ⟨hs25, hok⟩ := hok
                        refine r_callV_i (pc := 132) (as := [.int _, .int _]) hc (c_X5_survey l _ hs25) kk5 (o_lt hc (by decide)) rfl mV_X5_survey kM_L_69 ⟨Nat.le_of_ble_eq_true rfl, Nat.le_of_ble_eq_true rfl⟩ ⟨Nat.le_of_ble_eq_true rfl, Nat.le_of_ble_eq_true rfl⟩ rfl rfl (Nat.le_of_ble_eq_true rfl) dL_refused_132 (fun r σ' h => ?_)
                        obtain ⟨rfl, rfl⟩ := h
                        refine r_iconst (pc := 135) (v := (-1)) hc dL_refused_135 rfl ?_
                        refine r_icmp_ne (pc := 136) (tgt := 186) hc dL_refused_136 (by decide) (fun c136 => ?_) (fun c136 => ?_)
                        · have hok := hok.2 c136
                          have hq := o_qn hq c136
                          exact o_V.sub (t_L_refused_186  hc hr hok hq) [2, 1, 0] rfl
                        · have hok := hok.1 c136
                          have hq := o_qp hq c136
                          refine r_aload_n (pc := 139) hc 2 dL_refused_139 rfl rfl ?_
                          refine r_iconst (pc := 140) (v := 0) hc dL_refused_140 rfl ?_
                          refine r_iconst (pc := 141) (v := 0) hc dL_refused_141 rfl ?_
                          refine r_iconst (pc := 142) (v := 0) hc dL_refused_142 rfl ?_
                          refine r_iconst (pc := 143) (v := (-1)) hc dL_refused_143 rfl ?_
                          obtain ⟨hs27, hok⟩ := hok
                          refine r_callV_i (pc := 144) (as := [.int _, .int _, .int _, .int _]) hc (c_X5_found l _ hs27) kk5 (o_lt hc (by decide)) rfl mV_X5_found kM_L_72 ⟨Nat.le_of_ble_eq_true rfl, Nat.le_of_ble_eq_true rfl⟩ ⟨Nat.le_of_ble_eq_true rfl, Nat.le_of_ble_eq_true rfl⟩ rfl rfl (Nat.le_of_ble_eq_true rfl) dL_refused_144 (fun r σ' h => ?_)
                          obtain ⟨rfl, rfl⟩ := h
                          refine r_iconst (pc := 147) (v := (-1)) hc dL_refused_147 rfl ?_
                          refine r_icmp_ne (pc := 148) (tgt := 186) hc dL_refused_148 (by decide) (fun c148 => ?_) (fun c148 => ?_)
                          · have hok := hok.2 c148
                            have hq := o_qn hq c148
                            exact o_V.sub (t_L_refused_186  hc hr hok hq) [2, 1, 0] rfl
                          · have hok := hok.1 c148
                            have hq := o_qp hq c148
                            refine r_aload_n (pc := 151) hc 2 dL_refused_151 rfl rfl ?_
                            refine r_iconst (pc := 152) (v := 1) hc dL_refused_152 rfl ?_
                            refine r_iconst (pc := 153) (v := 0) hc dL_refused_153 rfl ?_
                            refine r_iconst (pc := 154) (v := 1) hc dL_refused_154 rfl ?_
                            refine r_iconst (pc := 155) (v := 0) hc dL_refused_155 rfl ?_
                            obtain ⟨hs28, hok⟩ := hok
                            refine r_callV_i (pc := 156) (as := [.int _, .int _, .int _, .int _]) hc (c_X5_byTwo l _ hs28) kk5 (o_lt hc (by decide)) rfl mV_X5_byTwo kM_L_76 ⟨Nat.le_of_ble_eq_true rfl, Nat.le_of_ble_eq_true rfl⟩ ⟨Nat.le_of_ble_eq_true rfl, Nat.le_of_ble_eq_true rfl⟩ rfl rfl (Nat.le_of_ble_eq_true rfl) dL_refused_156 (fun r σ' h => ?_)
                            obtain ⟨rfl, rfl⟩ := h
                            refine r_iconst (pc := 159) (v := (-1)) hc dL_refused_159 rfl ?_
                            refine r_icmp_ne (pc := 160) (tgt := 186) hc dL_refused_160 (by decide) (fun c160 => ?_) (fun c160 => ?_)
                            · have hok := hok.2 c160
                              have hq := o_qn hq c160
                              exact o_V.sub (t_L_refused_186  hc hr hok hq) [2, 1, 0] rfl
                            · have hok := hok.1 c160
                              have hq := o_qp hq c160
                              refine r_aload_n (pc := 163) hc 2 dL_refused_163 rfl rfl ?_
                              refine r_bipush (pc := 164) (v := 10) hc dL_refused_164 (by decide) ?_
                              obtain ⟨hs29, hok⟩ := hok
                              refine r_callV_i (pc := 166) (as := [.int _]) hc (c_X5_type l _ hs29) kk5 (o_lt hc (by decide)) rfl mV_X5_type kM_L_79 ⟨Nat.le_of_ble_eq_true rfl, Nat.le_of_ble_eq_true rfl⟩ ⟨Nat.le_of_ble_eq_true rfl, Nat.le_of_ble_eq_true rfl⟩ rfl rfl (Nat.le_of_ble_eq_true rfl) dL_refused_166 (fun r σ' h => ?_)
                              obtain ⟨rfl, rfl⟩ := h
                              refine r_iconst (pc := 169) (v := (-1)) hc dL_refused_169 rfl ?_
                              refine r_icmp_ne (pc := 170) (tgt := 186) hc dL_refused_170 (by decide) (fun c170 => ?_) (fun c170 => ?_)
                              · have hok := hok.2 c170
                                have hq := o_qn hq c170
                                exact o_V.sub (t_L_refused_186  hc hr hok hq) [2, 1, 0] rfl
                              · have hok := hok.1 c170
                                have hq := o_qp hq c170
                                refine r_aload_n (pc := 173) hc 2 dL_refused_173 rfl rfl ?_
                                refine r_iconst (pc := 174) (v := 3) hc dL_refused_174 rfl ?_
                                obtain ⟨hs31, hok⟩ := hok
                                refine r_callV_i (pc := 175) (as := [.int _]) hc (c_X5_fault l _ hs31) kk5 (o_lt hc (by decide)) rfl mV_X5_fault kM_L_82 ⟨Nat.le_of_ble_eq_true rfl, Nat.le_of_ble_eq_true rfl⟩ ⟨Nat.le_of_ble_eq_true rfl, Nat.le_of_ble_eq_true rfl⟩ rfl rfl (Nat.le_of_ble_eq_true rfl) dL_refused_175 (fun r σ' h => ?_)
                                obtain ⟨rfl, rfl⟩ := h
                                refine r_iconst (pc := 178) (v := (-1)) hc dL_refused_178 rfl ?_
                                refine r_icmp_ne (pc := 179) (tgt := 186) hc dL_refused_179 (by decide) (fun c179 => ?_) (fun c179 => ?_)
                                · have hok := hok.2 c179
                                  have hq := o_qn hq c179
                                  exact o_V.sub (t_L_refused_186  hc hr hok hq) [2, 1, 0] rfl
                                · have hok := hok.1 c179
                                  have hq := o_qp hq c179
                                  refine r_iconst (pc := 182) (v := 1) hc dL_refused_182 rfl ?_
                                  refine r_goto (pc := 183) (tgt := 187) hc dL_refused_183 (by decide) ?_
                                  exact o_V.sub (t_L_refused_187  hc hr hok hq) [2, 1, 0] rfl
