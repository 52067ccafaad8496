set_option linter.all false
noncomputable def f_X5_correction (p1 : Int32) (p2 : Int32) (σ : Sg) : Int32 :=
  o_ite ((f_X5_isCell p1 p2 σ) = 0) (
    (-1)) (
    ((f_X5_at 5 (f_X5_cell p1 p2 σ) σ) + 100))
def ok_X5_correction (p1 : Int32) (p2 : Int32) (σ : Sg) : Prop :=
  (ok_X5_isCell p1 p2 σ) ∧ ((((f_X5_isCell p1 p2 σ) = 0) →
    True) ∧ (¬ ((f_X5_isCell p1 p2 σ) = 0) →
    (ok_X5_cell p1 p2 σ) ∧ ((ok_X5_at 5 (f_X5_cell p1 p2 σ) σ) ∧ (True))))
set_option maxHeartbeats 4000000 in
set_option maxRecDepth 100000 in
theorem c_X5_correction (l : Launch) (G : Gt) {p1 : Int32} {p2 : Int32}  {σ : Sg} (hok : ok_X5_correction p1 p2 σ) : o_Ci l G yX5_correction cX5_correction 3 (some .int) 3 63 [.ref (gAd G 0), .int p1, .int p2] σ (fun r σ' => r = f_X5_correction p1 p2 σ ∧ σ' = σ) := by
  refine o_Ci.of (by decide +kernel) (Nat.le_of_ble_eq_true rfl) ?_
  intro p e s m args below meth c hc hr
  have hq : ∀ q : Int32, q = f_X5_correction p1 p2 σ → (fun r σ' => r = f_X5_correction p1 p2 σ ∧ σ' = σ) q σ := fun q h => ⟨h, rfl⟩
  refine r_iload_n (pc := 0) hc 1 dX5_correction_0 rfl rfl ?_
  refine r_iload_n (pc := 1) hc 2 dX5_correction_1 rfl rfl ?_
  obtain ⟨hs1, hok⟩ := hok
  refine r_callS_i (pc := 2) (as := [.int _, .int _]) hc (c_X5_isCell l _ hs1) mS_X5_isCell kM_X5_112 ⟨Nat.le_of_ble_eq_true rfl, Nat.le_of_ble_eq_true rfl⟩ ⟨Nat.le_of_ble_eq_true rfl, Nat.le_of_ble_eq_true rfl⟩ rfl rfl (Nat.le_of_ble_eq_true rfl) dX5_correction_2 (fun r σ' h => ?_)
  obtain ⟨rfl, rfl⟩ := h
  refine r_if_ne (pc := 5) (tgt := 10) hc dX5_correction_5 (by decide) (fun c5 => ?_) (fun c5 => ?_)
  · have hok := hok.2 c5
    have hq := o_qn hq c5
    refine r_aload_n (pc := 10) hc 0 dX5_correction_10 rfl rfl ?_
    refine r_getr (pc := 11) (j := 1) hc 0 kk5 (o_lt hc (by decide)) rfl (by decide) kF_X5_12 rfl rfl dX5_correction_11 ?_
    refine r_getrN (pc := 14) (j := 5) hc 10 kk3 (o_lt hc (by decide)) rfl (by decide) kN_X5_171 rfl rfl dX5_correction_14 ?_
    refine r_iload_n (pc := 17) hc 1 dX5_correction_17 rfl rfl ?_
    refine r_iload_n (pc := 18) hc 2 dX5_correction_18 rfl rfl ?_
    obtain ⟨hs2, hok⟩ := hok
    refine r_callS_i (pc := 19) (as := [.int _, .int _]) hc (c_X5_cell l _ hs2) mS_X5_cell kM_X5_120 ⟨Nat.le_of_ble_eq_true rfl, Nat.le_of_ble_eq_true rfl⟩ ⟨Nat.le_of_ble_eq_true rfl, Nat.le_of_ble_eq_true rfl⟩ rfl rfl (Nat.le_of_ble_eq_true rfl) dX5_correction_19 (fun r σ' h => ?_)
    obtain ⟨rfl, rfl⟩ := h
    obtain ⟨hs3, hok⟩ := hok
    refine r_callS_i (pc := 22) (as := [.ref (gAd G _), .int _]) hc (c_X5_at l _ (Or.inl ⟨by decide, rfl⟩) hs3) mS_X5_at kM_X5_124 ⟨Nat.le_of_ble_eq_true rfl, Nat.le_of_ble_eq_true rfl⟩ ⟨Nat.le_of_ble_eq_true rfl, Nat.le_of_ble_eq_true rfl⟩ rfl rfl (Nat.le_of_ble_eq_true rfl) dX5_correction_22 (fun r σ' h => ?_)
    obtain ⟨rfl, rfl⟩ := h
    refine r_bipush (pc := 25) (v := 100) hc dX5_correction_25 (by decide) ?_
    refine r_iadd (pc := 27) hc dX5_correction_27 ?_
    exact r_iret hc hr rfl dX5_correction_28 (hq _ rfl)
  · have hok := hok.1 c5
    have hq := o_qp hq c5
    refine r_iconst (pc := 8) (v := (-1)) hc dX5_correction_8 rfl ?_
    exact r_iret hc hr rfl dX5_correction_9 (hq _ rfl)
noncomputable def f_X5_found (p1 : Int32) (p2 : Int32) (p3 : Int32) (p4 : Int32) (σ : Sg) : Int32 :=
  o_ite ((f_X5_isReading 0 p1 σ) = 0) (
    (-1)) (
    o_ite ((f_X5_isReading 1 p2 σ) = 0) (
      (-1)) (
      o_ite ((f_X5_isReading 2 p3 σ) = 0) (
        (-1)) (
        o_ite ((f_X5_isOutside p4 0 1 σ) = 0) (
          o_ite (p4 = 0) (
            (f_X5_nearestAngle p1 p2 p3 σ)) (
            let r7 := f_X5_deviation (f_X5_nearestAngle p1 p2 p3 σ) p1 p2 p3 σ
            r7)) (
          (-1)))))
def ok_X5_found (p1 : Int32) (p2 : Int32) (p3 : Int32) (p4 : Int32) (σ : Sg) : Prop :=
  (ok_X5_isReading 0 p1 σ) ∧ ((((f_X5_isReading 0 p1 σ) = 0) →
    True) ∧ (¬ ((f_X5_isReading 0 p1 σ) = 0) →
    (ok_X5_isReading 1 p2 σ) ∧ ((((f_X5_isReading 1 p2 σ) = 0) →
      True) ∧ (¬ ((f_X5_isReading 1 p2 σ) = 0) →
      (ok_X5_isReading 2 p3 σ) ∧ ((((f_X5_isReading 2 p3 σ) = 0) →
        True) ∧ (¬ ((f_X5_isReading 2 p3 σ) = 0) →
        (ok_X5_isOutside p4 0 1 σ) ∧ ((((f_X5_isOutside p4 0 1 σ) = 0) →
          (ok_X5_nearestAngle p1 p2 p3 σ) ∧ (((p4 = 0) →
            True) ∧ (¬ (p4 = 0) →
            (ok_X5_deviation (f_X5_nearestAngle p1 p2 p3 σ) p1 p2 p3 σ) ∧ (let r7 := f_X5_deviation (f_X5_nearestAngle p1 p2 p3 σ) p1 p2 p3 σ
            True)))) ∧ (¬ ((f_X5_isOutside p4 0 1 σ) = 0) →
          True))))))))
set_option maxHeartbeats 4000000 in
set_option maxRecDepth 100000 in
theorem c_X5_found (l : Launch) (G : Gt) {p1 : Int32} {p2 : Int32} {p3 : Int32} {p4 : Int32}  {σ : Sg} (hok : ok_X5_found p1 p2 p3 p4 σ) : o_Ci l G yX5_found cX5_found 6 (some .int) 4 96 [.ref (gAd G 0), .int p1, .int p2, .int p3, .int p4] σ (fun r σ' => r = f_X5_found p1 p2 p3 p4 σ ∧ σ' = σ) := by
  refine o_Ci.of (by decide +kernel) (Nat.le_of_ble_eq_true rfl) ?_
  intro p e s m args below meth c hc hr
  have hq : ∀ q : Int32, q = f_X5_found p1 p2 p3 p4 σ → (fun r σ' => r = f_X5_found p1 p2 p3 p4 σ ∧ σ' = σ) q σ := fun q h => ⟨h, rfl⟩
  refine r_iconst (pc := 0) (v := 0) hc dX5_found_0 rfl ?_
  refine r_iload_n (pc := 1) hc 1 dX5_found_1 rfl rfl ?_
  obtain ⟨hs1, hok⟩ := hok
  refine r_callS_i (pc := 2) (as := [.int _, .int _]) hc (c_X5_isReading l _ hs1) mS_X5_isReading kM_X5_154 ⟨Nat.le_of_ble_eq_true rfl, Nat.le_of_ble_eq_true rfl⟩ ⟨Nat.le_of_ble_eq_true rfl, Nat.le_of_ble_eq_true rfl⟩ rfl rfl (Nat.le_of_ble_eq_true rfl) dX5_found_2 (fun r σ' h => ?_)
  obtain ⟨rfl, rfl⟩ := h
  refine r_if_eq (pc := 5) (tgt := 34) hc dX5_found_5 (by decide) (fun c5 => ?_) (fun c5 => ?_)
  · have hok := hok.1 c5
    have hq := o_qp hq c5
    refine r_iconst (pc := 34) (v := (-1)) hc dX5_found_34 rfl ?_
    exact r_iret hc hr rfl dX5_found_35 (hq _ rfl)
  · have hok := hok.2 c5
    have hq := o_qn hq c5
    refine r_iconst (pc := 8) (v := 1) hc dX5_found_8 rfl ?_
    refine r_iload_n (pc := 9) hc 2 dX5_found_9 rfl rfl ?_
    obtain ⟨hs2, hok⟩ := hok
    refine r_callS_i (pc := 10) (as := [.int _, .int _]) hc (c_X5_isReading l _ hs2) mS_X5_isReading kM_X5_154 ⟨Nat.le_of_ble_eq_true rfl, Nat.le_of_ble_eq_true rfl⟩ ⟨Nat.le_of_ble_eq_true rfl, Nat.le_of_ble_eq_true rfl⟩ rfl rfl (Nat.le_of_ble_eq_true rfl) dX5_found_10 (fun r σ' h => ?_)
    obtain ⟨rfl, rfl⟩ := h
    refine r_if_eq (pc := 13) (tgt := 34) hc dX5_found_13 (by decide) (fun c13 => ?_) (fun c13 => ?_)
    · have hok := hok.1 c13
      have hq := o_qp hq c13
      refine r_iconst (pc := 34) (v := (-1)) hc dX5_found_34 rfl ?_
      exact r_iret hc hr rfl dX5_found_35 (hq _ rfl)
    · have hok := hok.2 c13
      have hq := o_qn hq c13
      refine r_iconst (pc := 16) (v := 2) hc dX5_found_16 rfl ?_
      refine r_iload_n (pc := 17) hc 3 dX5_found_17 rfl rfl ?_
      obtain ⟨hs3, hok⟩ := hok
      refine r_callS_i (pc := 18) (as := [.int _, .int _]) hc (c_X5_isReading l _ hs3) mS_X5_isReading kM_X5_154 ⟨Nat.le_of_ble_eq_true rfl, Nat.le_of_ble_eq_true rfl⟩ ⟨Nat.le_of_ble_eq_true rfl, Nat.le_of_ble_eq_true rfl⟩ rfl rfl (Nat.le_of_ble_eq_true rfl) dX5_found_18 (fun r σ' h => ?_)
      obtain ⟨rfl, rfl⟩ := h
      refine r_if_eq (pc := 21) (tgt := 34) hc dX5_found_21 (by decide) (fun c21 => ?_) (fun c21 => ?_)
      · have hok := hok.1 c21
        have hq := o_qp hq c21
        refine r_iconst (pc := 34) (v := (-1)) hc dX5_found_34 rfl ?_
        exact r_iret hc hr rfl dX5_found_35 (hq _ rfl)
      · have hok := hok.2 c21
        have hq := o_qn hq c21
        refine r_iload (pc := 24) hc 4 dX5_found_24 rfl ?_
        refine r_iconst (pc := 26) (v := 0) hc dX5_found_26 rfl ?_
        refine r_iconst (pc := 27) (v := 1) hc dX5_found_27 rfl ?_
        obtain ⟨hs4, hok⟩ := hok
        refine r_callS_i (pc := 28) (as := [.int _, .int _, .int _]) hc (c_X5_isOutside l _ hs4) mS_X5_isOutside kM_X5_44 ⟨Nat.le_of_ble_eq_true rfl, Nat.le_of_ble_eq_true rfl⟩ ⟨Nat.le_of_ble_eq_true rfl, Nat.le_of_ble_eq_true rfl⟩ rfl rfl (Nat.le_of_ble_eq_true rfl) dX5_found_28 (fun r σ' h => ?_)
        obtain ⟨rfl, rfl⟩ := h
        refine r_if_eq (pc := 31) (tgt := 36) hc dX5_found_31 (by decide) (fun c31 => ?_) (fun c31 => ?_)
        · have hok := hok.1 c31
          have hq := o_qp hq c31
          refine r_iload_n (pc := 36) hc 1 dX5_found_36 rfl rfl ?_
          refine r_iload_n (pc := 37) hc 2 dX5_found_37 rfl rfl ?_
          refine r_iload_n (pc := 38) hc 3 dX5_found_38 rfl rfl ?_
          obtain ⟨hs5, hok⟩ := hok
          refine r_callS_i (pc := 39) (as := [.int _, .int _, .int _]) hc (c_X5_nearestAngle l _ hs5) mS_X5_nearestAngle kM_X5_157 ⟨Nat.le_of_ble_eq_true rfl, Nat.le_of_ble_eq_true rfl⟩ ⟨Nat.le_of_ble_eq_true rfl, Nat.le_of_ble_eq_true rfl⟩ rfl rfl (Nat.le_of_ble_eq_true rfl) dX5_found_39 (fun r σ' h => ?_)
          obtain ⟨rfl, rfl⟩ := h
          refine r_istore (pc := 42) (lv' := [(5, _), (0, _), (1, _), (2, _), (3, _), (4, _)]) hc dX5_found_42 (by decide) rfl ?_
          refine r_iload (pc := 44) hc 5 dX5_found_44 rfl ?_
          refine r_if_ne (pc := 46) (tgt := 54) hc dX5_found_46 (by decide) (fun c46 => ?_) (fun c46 => ?_)
          · have hok := hok.2 c46
            have hq := o_qn hq c46
            refine r_iload (pc := 54) hc 0 dX5_found_54 rfl ?_
            refine r_iload_n (pc := 56) hc 2 dX5_found_56 rfl rfl ?_
            refine r_iload_n (pc := 57) hc 3 dX5_found_57 rfl rfl ?_
            refine r_iload_n (pc := 58) hc 4 dX5_found_58 rfl rfl ?_
            obtain ⟨hs6, hok⟩ := hok
            refine r_callS_i (pc := 59) (as := [.int _, .int _, .int _, .int _]) hc (c_X5_deviation l _ hs6) mS_X5_deviation kM_X5_161 ⟨Nat.le_of_ble_eq_true rfl, Nat.le_of_ble_eq_true rfl⟩ ⟨Nat.le_of_ble_eq_true rfl, Nat.le_of_ble_eq_true rfl⟩ rfl rfl (Nat.le_of_ble_eq_true rfl) dX5_found_59 (fun r σ' h => ?_)
            obtain ⟨rfl, rfl⟩ := h
            exact r_iret hc hr rfl dX5_found_62 (hq _ rfl)
          · have hok := hok.1 c46
            have hq := o_qp hq c46
            refine r_iload (pc := 49) hc 0 dX5_found_49 rfl ?_
            refine r_goto (pc := 51) (tgt := 62) hc dX5_found_51 (by decide) ?_
            exact r_iret hc hr rfl dX5_found_62 (hq _ rfl)
        · have hok := hok.2 c31
          have hq := o_qn hq c31
          refine r_iconst (pc := 34) (v := (-1)) hc dX5_found_34 rfl ?_
          exact r_iret hc hr rfl dX5_found_35 (hq _ rfl)
noncomputable def f_X5_reading (p1 : Int32) (σ : Sg) : Int32 :=
  o_ite ((f_X5_isTrack p1 σ) = 0) (
    (-1)) (
    (f_X3_readingAt p1 (f_X3_angle σ) σ))
def ok_X5_reading (p1 : Int32) (σ : Sg) : Prop :=
  (ok_X5_isTrack p1 σ) ∧ ((((f_X5_isTrack p1 σ) = 0) →
    True) ∧ (¬ ((f_X5_isTrack p1 σ) = 0) →
    (ok_X3_angle σ) ∧ ((ok_X3_readingAt p1 (f_X3_angle σ) σ) ∧ (True))))
set_option maxHeartbeats 4000000 in
set_option maxRecDepth 100000 in
theorem c_X5_reading (l : Launch) (G : Gt) {p1 : Int32}  {σ : Sg} (hok : ok_X5_reading p1 σ) : o_Ci l G yX5_reading cX5_reading 2 (some .int) 2 45 [.ref (gAd G 0), .int p1] σ (fun r σ' => r = f_X5_reading p1 σ ∧ σ' = σ) := by
  refine o_Ci.of (by decide +kernel) (Nat.le_of_ble_eq_true rfl) ?_
  intro p e s m args below meth c hc hr
  have hq : ∀ q : Int32, q = f_X5_reading p1 σ → (fun r σ' => r = f_X5_reading p1 σ ∧ σ' = σ) q σ := fun q h => ⟨h, rfl⟩
  refine r_iload_n (pc := 0) hc 1 dX5_reading_0 rfl rfl ?_
  obtain ⟨hs1, hok⟩ := hok
  refine r_callS_i (pc := 1) (as := [.int _]) hc (c_X5_isTrack l _ hs1) mS_X5_isTrack kM_X5_132 ⟨Nat.le_of_ble_eq_true rfl, Nat.le_of_ble_eq_true rfl⟩ ⟨Nat.le_of_ble_eq_true rfl, Nat.le_of_ble_eq_true rfl⟩ rfl rfl (Nat.le_of_ble_eq_true rfl) dX5_reading_1 (fun r σ' h => ?_)
  obtain ⟨rfl, rfl⟩ := h
  refine r_if_eq (pc := 4) (tgt := 25) hc dX5_reading_4 (by decide) (fun c4 => ?_) (fun c4 => ?_)
  · have hok := hok.1 c4
    have hq := o_qp hq c4
    refine r_iconst (pc := 25) (v := (-1)) hc dX5_reading_25 rfl ?_
    exact r_iret hc hr rfl dX5_reading_26 (hq _ rfl)
  · have hok := hok.2 c4
    have hq := o_qn hq c4
    refine r_aload_n (pc := 7) hc 0 dX5_reading_7 rfl rfl ?_
    refine r_getr (pc := 8) (j := 1) hc 0 kk5 (o_lt hc (by decide)) rfl (by decide) kF_X5_12 rfl rfl dX5_reading_8 ?_
    refine r_iload_n (pc := 11) hc 1 dX5_reading_11 rfl rfl ?_
    refine r_aload_n (pc := 12) hc 0 dX5_reading_12 rfl rfl ?_
    refine r_getr (pc := 13) (j := 1) hc 0 kk5 (o_lt hc (by decide)) rfl (by decide) kF_X5_12 rfl rfl dX5_reading_13 ?_
    obtain ⟨hs2, hok⟩ := hok
    refine r_callVN_i (pc := 16) (as := []) hc (c_X3_angle l _ hs2) kk3 (o_lt hc (by decide)) rfl mV_X3_angle kN_X5_81 ⟨Nat.le_of_ble_eq_true rfl, Nat.le_of_ble_eq_true rfl⟩ ⟨Nat.le_of_ble_eq_true rfl, Nat.le_of_ble_eq_true rfl⟩ rfl rfl (Nat.le_of_ble_eq_true rfl) dX5_reading_16 (fun r σ' h => ?_)
    obtain ⟨rfl, rfl⟩ := h
    obtain ⟨hs3, hok⟩ := hok
    refine r_callVN_i (pc := 19) (as := [.int _, .int _]) hc (c_X3_readingAt l _ hs3) kk3 (o_lt hc (by decide)) rfl mV_X3_readingAt kN_X5_151 ⟨Nat.le_of_ble_eq_true rfl, Nat.le_of_ble_eq_true rfl⟩ ⟨Nat.le_of_ble_eq_true rfl, Nat.le_of_ble_eq_true rfl⟩ rfl rfl (Nat.le_of_ble_eq_true rfl) dX5_reading_19 (fun r σ' h => ?_)
    obtain ⟨rfl, rfl⟩ := h
    refine r_goto (pc := 22) (tgt := 26) hc dX5_reading_22 (by decide) ?_
    exact r_iret hc hr rfl dX5_reading_26 (hq _ rfl)
noncomputable def f_X5_shownSetting (p1 : Int32) (σ : Sg) : Int32 :=
  o_ite (p1 = 3) (
    ((f_X5_at 2 p1 σ) + 100)) (
    (f_X5_at 2 p1 σ))
def ok_X5_shownSetting (p1 : Int32) (σ : Sg) : Prop :=
  (ok_X5_at 2 p1 σ) ∧ (((p1 = 3) →
    True) ∧ (¬ (p1 = 3) →
    True))
set_option maxHeartbeats 4000000 in
set_option maxRecDepth 100000 in
theorem c_X5_shownSetting (l : Launch) (G : Gt) {p1 : Int32}  {σ : Sg} (hok : ok_X5_shownSetting p1 σ) : o_Ci l G yX5_shownSetting cX5_shownSetting 3 (some .int) 1 21 [.ref (gAd G 0), .int p1] σ (fun r σ' => r = f_X5_shownSetting p1 σ ∧ σ' = σ) := by
  refine o_Ci.of (by decide +kernel) (Nat.le_of_ble_eq_true rfl) ?_
  intro p e s m args below meth c hc hr
  have hq : ∀ q : Int32, q = f_X5_shownSetting p1 σ → (fun r σ' => r = f_X5_shownSetting p1 σ ∧ σ' = σ) q σ := fun q h => ⟨h, rfl⟩
  refine r_aload_n (pc := 0) hc 0 dX5_shownSetting_0 rfl rfl ?_
  refine r_getr (pc := 1) (j := 1) hc 0 kk5 (o_lt hc (by decide)) rfl (by decide) kF_X5_12 rfl rfl dX5_shownSetting_1 ?_
  refine r_getrN (pc := 4) (j := 2) hc 7 kk3 (o_lt hc (by decide)) rfl (by decide) kN_X5_148 rfl rfl dX5_shownSetting_4 ?_
  refine r_iload_n (pc := 7) hc 1 dX5_shownSetting_7 rfl rfl ?_
  obtain ⟨hs1, hok⟩ := hok
  refine r_callS_i (pc := 8) (as := [.ref (gAd G _), .int _]) hc (c_X5_at l _ (Or.inl ⟨by decide, rfl⟩) hs1) mS_X5_at kM_X5_124 ⟨Nat.le_of_ble_eq_true rfl, Nat.le_of_ble_eq_true rfl⟩ ⟨Nat.le_of_ble_eq_true rfl, Nat.le_of_ble_eq_true rfl⟩ rfl rfl (Nat.le_of_ble_eq_true rfl) dX5_shownSetting_8 (fun r σ' h => ?_)
  obtain ⟨rfl, rfl⟩ := h
  refine r_istore_n (pc := 11) (lv' := [(2, _), (0, _), (1, _)]) hc dX5_shownSetting_11 rfl (by decide) rfl ?_
  refine r_iload_n (pc := 12) hc 2 dX5_shownSetting_12 rfl rfl ?_
  refine r_iconst (pc := 13) (v := 3) hc dX5_shownSetting_13 rfl ?_
  refine r_icmp_ne (pc := 14) (tgt := 24) hc dX5_shownSetting_14 (by decide) (fun c14 => ?_) (fun c14 => ?_)
  · have hok := hok.2 c14
    have hq := o_qn hq c14
    refine r_iload_n (pc := 24) hc 0 dX5_shownSetting_24 rfl rfl ?_
    exact r_iret hc hr rfl dX5_shownSetting_25 (hq _ rfl)
  · have hok := hok.1 c14
    have hq := o_qp hq c14
    refine r_iload_n (pc := 17) hc 0 dX5_shownSetting_17 rfl rfl ?_
    refine r_bipush (pc := 18) (v := 100) hc dX5_shownSetting_18 (by decide) ?_
    refine r_iadd (pc := 20) hc dX5_shownSetting_20 ?_
    refine r_goto (pc := 21) (tgt := 25) hc dX5_shownSetting_21 (by decide) ?_
    exact r_iret hc hr rfl dX5_shownSetting_25 (hq _ rfl)
noncomputable def f_X5_settingCount (p1 : Int32) (σ : Sg) : Int32 :=
  o_ite ((f_X5_isOutside p1 0 3 σ) = 0) (
    (f_X5_shownSetting p1 σ)) (
    (-1))
def ok_X5_settingCount (p1 : Int32) (σ : Sg) : Prop :=
  (ok_X5_isOutside p1 0 3 σ) ∧ ((((f_X5_isOutside p1 0 3 σ) = 0) →
    (ok_X5_shownSetting p1 σ) ∧ (True)) ∧ (¬ ((f_X5_isOutside p1 0 3 σ) = 0) →
    True))
set_option maxHeartbeats 4000000 in
set_option maxRecDepth 100000 in
theorem c_X5_settingCount (l : Launch) (G : Gt) {p1 : Int32}  {σ : Sg} (hok : ok_X5_settingCount p1 σ) : o_Ci l G yX5_settingCount cX5_settingCount 2 (some .int) 2 43 [.ref (gAd G 0), .int p1] σ (fun r σ' => r = f_X5_settingCount p1 σ ∧ σ' = σ) := by
  refine o_Ci.of (by decide +kernel) (Nat.le_of_ble_eq_true rfl) ?_
  intro p e s m args below meth c hc hr
  have hq : ∀ q : Int32, q = f_X5_settingCount p1 σ → (fun r σ' => r = f_X5_settingCount p1 σ ∧ σ' = σ) q σ := fun q h => ⟨h, rfl⟩
  refine r_iload_n (pc := 0) hc 1 dX5_settingCount_0 rfl rfl ?_
  refine r_iconst (pc := 1) (v := 0) hc dX5_settingCount_1 rfl ?_
  refine r_iconst (pc := 2) (v := 3) hc dX5_settingCount_2 rfl ?_
  obtain ⟨hs1, hok⟩ := hok
  refine r_callS_i (pc := 3) (as := [.int _, .int _, .int _]) hc (c_X5_isOutside l _ hs1) mS_X5_isOutside kM_X5_44 ⟨Nat.le_of_ble_eq_true rfl, Nat.le_of_ble_eq_true rfl⟩ ⟨Nat.le_of_ble_eq_true rfl, Nat.le_of_ble_eq_true rfl⟩ rfl rfl (Nat.le_of_ble_eq_true rfl) dX5_settingCount_3 (fun r σ' h => ?_)
  obtain ⟨rfl, rfl⟩ := h
  refine r_if_eq (pc := 6) (tgt := 13) hc dX5_settingCount_6 (by decide) (fun c6 => ?_) (fun c6 => ?_)
  · have hok := hok.1 c6
    have hq := o_qp hq c6
    refine r_aload_n (pc := 13) hc 0 dX5_settingCount_13 rfl rfl ?_
    refine r_iload_n (pc := 14) hc 1 dX5_settingCount_14 rfl rfl ?_
    obtain ⟨hs2, hok⟩ := hok
    refine r_callV_i (pc := 15) (as := [.int _]) hc (c_X5_shownSetting l _ hs2) kk5 (o_lt hc (by decide)) rfl mV_X5_shownSetting kM_X5_145 ⟨Nat.le_of_ble_eq_true rfl, Nat.le_of_ble_eq_true rfl⟩ ⟨Nat.le_of_ble_eq_true rfl, Nat.le_of_ble_eq_true rfl⟩ rfl rfl (Nat.le_of_ble_eq_true rfl) dX5_settingCount_15 (fun r σ' h => ?_)
    obtain ⟨rfl, rfl⟩ := h
    exact r_iret hc hr rfl dX5_settingCount_18 (hq _ rfl)
  · have hok := hok.2 c6
    have hq := o_qn hq c6
    refine r_iconst (pc := 9) (v := (-1)) hc dX5_settingCount_9 rfl ?_
    refine r_goto (pc := 10) (tgt := 18) hc dX5_settingCount_10 (by decide) ?_
    exact r_iret hc hr rfl dX5_settingCount_18 (hq _ rfl)
noncomputable def f_X5_count (p1 : Int32) (σ : Sg) : Int32 :=
  o_ite (p1 = 0) (
    (σ 1 0)) (
    o_ite (p1 = 1) (
      (f_X3_angle σ)) (
      o_ite (p1 = 2) (
        (σ 1 1)) (
        o_ite (p1 = 3) (
          (f_X5_toNumber (σ 1 2) σ)) (
          o_ite (p1 = 4) (
            (σ 1 3)) (
            o_ite (p1 = 5) (
              (σ 1 4)) (
              o_ite (p1 = 6) (
                o_ite ((σ 1 5) = (-1)) (
                  (-4)) (
                  (σ 1 5))) (
                o_ite (p1 = 7) (
                  (σ 1 6)) (
                  o_ite (p1 = 8) (
                    (f_X3_coarse σ)) (
                    o_ite (p1 = 9) (
                      (f_X3_correctionsInUse σ)) (
                      o_ite (p1 = 10) (
                        (σ 6 2)) (
                        o_ite (p1 = 11) (
                          (σ 30 1)) (
                          (f_X5_settingCount (p1 - 20) σ)))))))))))))
def ok_X5_count (p1 : Int32) (σ : Sg) : Prop :=
  ((p1 = 0) →
    True) ∧ (¬ (p1 = 0) →
    ((p1 = 1) →
      (ok_X3_angle σ) ∧ (True)) ∧ (¬ (p1 = 1) →
      ((p1 = 2) →
        True) ∧ (¬ (p1 = 2) →
        ((p1 = 3) →
          (ok_X5_toNumber (σ 1 2) σ) ∧ (True)) ∧ (¬ (p1 = 3) →
          ((p1 = 4) →
            True) ∧ (¬ (p1 = 4) →
            ((p1 = 5) →
              True) ∧ (¬ (p1 = 5) →
              ((p1 = 6) →
                (((σ 1 5) = (-1)) →
                  True) ∧ (¬ ((σ 1 5) = (-1)) →
                  True)) ∧ (¬ (p1 = 6) →
                ((p1 = 7) →
                  True) ∧ (¬ (p1 = 7) →
                  ((p1 = 8) →
                    (ok_X3_coarse σ) ∧ (True)) ∧ (¬ (p1 = 8) →
                    ((p1 = 9) →
                      (ok_X3_correctionsInUse σ) ∧ (True)) ∧ (¬ (p1 = 9) →
                      ((p1 = 10) →
                        True) ∧ (¬ (p1 = 10) →
                        ((p1 = 11) →
                          True) ∧ (¬ (p1 = 11) →
                          (ok_X5_settingCount (p1 - 20) σ) ∧ (True)))))))))))))
set_option maxHeartbeats 4000000 in
set_option maxRecDepth 100000 in
theorem c_X5_count (l : Launch) (G : Gt) {p1 : Int32}  {σ : Sg} (hok : ok_X5_count p1 σ) : o_Ci l G yX5_count cX5_count 2 (some .int) 3 64 [.ref (gAd G 0), .int p1] σ (fun r σ' => r = f_X5_count p1 σ ∧ σ' = σ) := by
  refine o_Ci.of (by decide +kernel) (Nat.le_of_ble_eq_true rfl) ?_
  intro p e s m args below meth c hc hr
  have hq : ∀ q : Int32, q = f_X5_count p1 σ → (fun r σ' => r = f_X5_count p1 σ ∧ σ' = σ) q σ := fun q h => ⟨h, rfl⟩
  refine r_iload_n (pc := 0) hc 1 dX5_count_0 rfl rfl ?_
  refine o_cs (p1 = 0) (fun s1_0 => ?_) (fun s1_0 => ?_)
  · have hok := hok.1 s1_0
    have hq := o_qp hq s1_0
    refine r_tabIn (pc := 1) (tgt := 64) (k := 0) (off := 63) hc dX5_count_1 s1_0 (by decide) (by decide) (by decide) (by decide) ?_
    refine r_aload_n (pc := 64) hc 0 dX5_count_64 rfl rfl ?_
    refine r_getr (pc := 65) (j := 1) hc 0 kk5 (o_lt hc (by decide)) rfl (by decide) kF_X5_12 rfl rfl dX5_count_65 ?_
    refine r_getiN (pc := 68) hc 0 kk3 (o_lt hc (by decide)) rfl (by decide) kN_X5_48 rfl rfl dX5_count_68 ?_
    exact r_iret hc hr rfl dX5_count_71 (hq _ rfl)
  have hok := hok.2 s1_0
  have hq := o_qn hq s1_0
  refine o_cs (p1 = 1) (fun s1_1 => ?_) (fun s1_1 => ?_)
  · have hok := hok.1 s1_1
    have hq := o_qp hq s1_1
    refine r_tabIn (pc := 1) (tgt := 72) (k := 1) (off := 71) hc dX5_count_1 s1_1 (by decide) (by decide) (by decide) (by decide) ?_
    refine r_aload_n (pc := 72) hc 0 dX5_count_72 rfl rfl ?_
    refine r_getr (pc := 73) (j := 1) hc 0 kk5 (o_lt hc (by decide)) rfl (by decide) kF_X5_12 rfl rfl dX5_count_73 ?_
    obtain ⟨hs1, hok⟩ := hok
    refine r_callVN_i (pc := 76) (as := []) hc (c_X3_angle l _ hs1) kk3 (o_lt hc (by decide)) rfl mV_X3_angle kN_X5_81 ⟨Nat.le_of_ble_eq_true rfl, Nat.le_of_ble_eq_true rfl⟩ ⟨Nat.le_of_ble_eq_true rfl, Nat.le_of_ble_eq_true rfl⟩ rfl rfl (Nat.le_of_ble_eq_true rfl) dX5_count_76 (fun r σ' h => ?_)
    obtain ⟨rfl, rfl⟩ := h
    exact r_iret hc hr rfl dX5_count_79 (hq _ rfl)
  have hok := hok.2 s1_1
  have hq := o_qn hq s1_1
  refine o_cs (p1 = 2) (fun s1_2 => ?_) (fun s1_2 => ?_)
  · have hok := hok.1 s1_2
    have hq := o_qp hq s1_2
    refine r_tabIn (pc := 1) (tgt := 80) (k := 2) (off := 79) hc dX5_count_1 s1_2 (by decide) (by decide) (by decide) (by decide) ?_
    refine r_aload_n (pc := 80) hc 0 dX5_count_80 rfl rfl ?_
    refine r_getr (pc := 81) (j := 1) hc 0 kk5 (o_lt hc (by decide)) rfl (by decide) kF_X5_12 rfl rfl dX5_count_81 ?_
    refine r_getiN (pc := 84) hc 1 kk3 (o_lt hc (by decide)) rfl (by decide) kN_X5_85 rfl rfl dX5_count_84 ?_
    exact r_iret hc hr rfl dX5_count_87 (hq _ rfl)
  have hok := hok.2 s1_2
  have hq := o_qn hq s1_2
  refine o_cs (p1 = 3) (fun s1_3 => ?_) (fun s1_3 => ?_)
  · have hok := hok.1 s1_3
    have hq := o_qp hq s1_3
    refine r_tabIn (pc := 1) (tgt := 88) (k := 3) (off := 87) hc dX5_count_1 s1_3 (by decide) (by decide) (by decide) (by decide) ?_
    refine r_aload_n (pc := 88) hc 0 dX5_count_88 rfl rfl ?_
    refine r_getr (pc := 89) (j := 1) hc 0 kk5 (o_lt hc (by decide)) rfl (by decide) kF_X5_12 rfl rfl dX5_count_89 ?_
    refine r_getiN (pc := 92) hc 2 kk3 (o_lt hc (by decide)) rfl (by decide) kN_X5_67 rfl rfl dX5_count_92 ?_
    obtain ⟨hs2, hok⟩ := hok
    refine r_callS_i (pc := 95) (as := [.int _]) hc (c_X5_toNumber l _ hs2) mS_X5_toNumber kM_X5_71 ⟨Nat.le_of_ble_eq_true rfl, Nat.le_of_ble_eq_true rfl⟩ ⟨Nat.le_of_ble_eq_true rfl, Nat.le_of_ble_eq_true rfl⟩ rfl rfl (Nat.le_of_ble_eq_true rfl) dX5_count_95 (fun r σ' h => ?_)
    obtain ⟨rfl, rfl⟩ := h
    exact r_iret hc hr rfl dX5_count_98 (hq _ rfl)
  have hok := hok.2 s1_3
  have hq := o_qn hq s1_3
  refine o_cs (p1 = 4) (fun s1_4 => ?_) (fun s1_4 => ?_)
  · have hok := hok.1 s1_4
    have hq := o_qp hq s1_4
    refine r_tabIn (pc := 1) (tgt := 99) (k := 4) (off := 98) hc dX5_count_1 s1_4 (by decide) (by decide) (by decide) (by decide) ?_
    refine r_aload_n (pc := 99) hc 0 dX5_count_99 rfl rfl ?_
    refine r_getr (pc := 100) (j := 1) hc 0 kk5 (o_lt hc (by decide)) rfl (by decide) kF_X5_12 rfl rfl dX5_count_100 ?_
    refine r_getiN (pc := 103) hc 3 kk3 (o_lt hc (by decide)) rfl (by decide) kN_X5_78 rfl rfl dX5_count_103 ?_
    exact r_iret hc hr rfl dX5_count_106 (hq _ rfl)
  have hok := hok.2 s1_4
  have hq := o_qn hq s1_4
  refine o_cs (p1 = 5) (fun s1_5 => ?_) (fun s1_5 => ?_)
  · have hok := hok.1 s1_5
    have hq := o_qp hq s1_5
    refine r_tabIn (pc := 1) (tgt := 107) (k := 5) (off := 106) hc dX5_count_1 s1_5 (by decide) (by decide) (by decide) (by decide) ?_
    refine r_aload_n (pc := 107) hc 0 dX5_count_107 rfl rfl ?_
    refine r_getr (pc := 108) (j := 1) hc 0 kk5 (o_lt hc (by decide)) rfl (by decide) kF_X5_12 rfl rfl dX5_count_108 ?_
    refine r_getiN (pc := 111) hc 4 kk3 (o_lt hc (by decide)) rfl (by decide) kN_X5_75 rfl rfl dX5_count_111 ?_
    exact r_iret hc hr rfl dX5_count_114 (hq _ rfl)
  have hok := hok.2 s1_5
  have hq := o_qn hq s1_5
  refine o_cs (p1 = 6) (fun s1_6 => ?_) (fun s1_6 => ?_)
  · have hok := hok.1 s1_6
    have hq := o_qp hq s1_6
    refine r_tabIn (pc := 1) (tgt := 115) (k := 6) (off := 114) hc dX5_count_1 s1_6 (by decide) (by decide) (by decide) (by decide) ?_
    refine r_aload_n (pc := 115) hc 0 dX5_count_115 rfl rfl ?_
    refine r_getr (pc := 116) (j := 1) hc 0 kk5 (o_lt hc (by decide)) rfl (by decide) kF_X5_12 rfl rfl dX5_count_116 ?_
    refine r_getiN (pc := 119) hc 5 kk3 (o_lt hc (by decide)) rfl (by decide) kN_X5_88 rfl rfl dX5_count_119 ?_
    refine r_iconst (pc := 122) (v := (-1)) hc dX5_count_122 rfl ?_
    refine r_icmp_ne (pc := 123) (tgt := 131) hc dX5_count_123 (by decide) (fun c123 => ?_) (fun c123 => ?_)
    · have hok := hok.2 c123
      have hq := o_qn hq c123
      refine r_aload_n (pc := 131) hc 0 dX5_count_131 rfl rfl ?_
      refine r_getr (pc := 132) (j := 1) hc 0 kk5 (o_lt hc (by decide)) rfl (by decide) kF_X5_12 rfl rfl dX5_count_132 ?_
      refine r_getiN (pc := 135) hc 5 kk3 (o_lt hc (by decide)) rfl (by decide) kN_X5_88 rfl rfl dX5_count_135 ?_
      exact r_iret hc hr rfl dX5_count_138 (hq _ rfl)
    · have hok := hok.1 c123
      have hq := o_qp hq c123
      refine r_bipush (pc := 126) (v := (-4)) hc dX5_count_126 (by decide) ?_
      refine r_goto (pc := 128) (tgt := 138) hc dX5_count_128 (by decide) ?_
      exact r_iret hc hr rfl dX5_count_138 (hq _ rfl)
  have hok := hok.2 s1_6
  have hq := o_qn hq s1_6
  refine o_cs (p1 = 7) (fun s1_7 => ?_) (fun s1_7 => ?_)
  · have hok := hok.1 s1_7
    have hq := o_qp hq s1_7
    refine r_tabIn (pc := 1) (tgt := 139) (k := 7) (off := 138) hc dX5_count_1 s1_7 (by decide) (by decide) (by decide) (by decide) ?_
    refine r_aload_n (pc := 139) hc 0 dX5_count_139 rfl rfl ?_
    refine r_getr (pc := 140) (j := 1) hc 0 kk5 (o_lt hc (by decide)) rfl (by decide) kF_X5_12 rfl rfl dX5_count_140 ?_
    refine r_getiN (pc := 143) hc 6 kk3 (o_lt hc (by decide)) rfl (by decide) kN_X5_91 rfl rfl dX5_count_143 ?_
    exact r_iret hc hr rfl dX5_count_146 (hq _ rfl)
  have hok := hok.2 s1_7
  have hq := o_qn hq s1_7
  refine o_cs (p1 = 8) (fun s1_8 => ?_) (fun s1_8 => ?_)
  · have hok := hok.1 s1_8
    have hq := o_qp hq s1_8
    refine r_tabIn (pc := 1) (tgt := 147) (k := 8) (off := 146) hc dX5_count_1 s1_8 (by decide) (by decide) (by decide) (by decide) ?_
    refine r_aload_n (pc := 147) hc 0 dX5_count_147 rfl rfl ?_
    refine r_getr (pc := 148) (j := 1) hc 0 kk5 (o_lt hc (by decide)) rfl (by decide) kF_X5_12 rfl rfl dX5_count_148 ?_
    obtain ⟨hs3, hok⟩ := hok
    refine r_callVN_i (pc := 151) (as := []) hc (c_X3_coarse l _ hs3) kk3 (o_lt hc (by decide)) rfl mV_X3_coarse kN_X5_94 ⟨Nat.le_of_ble_eq_true rfl, Nat.le_of_ble_eq_true rfl⟩ ⟨Nat.le_of_ble_eq_true rfl, Nat.le_of_ble_eq_true rfl⟩ rfl rfl (Nat.le_of_ble_eq_true rfl) dX5_count_151 (fun r σ' h => ?_)
    obtain ⟨rfl, rfl⟩ := h
    exact r_iret hc hr rfl dX5_count_154 (hq _ rfl)
  have hok := hok.2 s1_8
  have hq := o_qn hq s1_8
  refine o_cs (p1 = 9) (fun s1_9 => ?_) (fun s1_9 => ?_)
  · have hok := hok.1 s1_9
    have hq := o_qp hq s1_9
    refine r_tabIn (pc := 1) (tgt := 155) (k := 9) (off := 154) hc dX5_count_1 s1_9 (by decide) (by decide) (by decide) (by decide) ?_
    refine r_aload_n (pc := 155) hc 0 dX5_count_155 rfl rfl ?_
    refine r_getr (pc := 156) (j := 1) hc 0 kk5 (o_lt hc (by decide)) rfl (by decide) kF_X5_12 rfl rfl dX5_count_156 ?_
    obtain ⟨hs4, hok⟩ := hok
    refine r_callVN_i (pc := 159) (as := []) hc (c_X3_correctionsInUse l _ hs4) kk3 (o_lt hc (by decide)) rfl mV_X3_correctionsInUse kN_X5_97 ⟨Nat.le_of_ble_eq_true rfl, Nat.le_of_ble_eq_true rfl⟩ ⟨Nat.le_of_ble_eq_true rfl, Nat.le_of_ble_eq_true rfl⟩ rfl rfl (Nat.le_of_ble_eq_true rfl) dX5_count_159 (fun r σ' h => ?_)
    obtain ⟨rfl, rfl⟩ := h
    exact r_iret hc hr rfl dX5_count_162 (hq _ rfl)
  have hok := hok.2 s1_9
  have hq := o_qn hq s1_9
  refine o_cs (p1 = 10) (fun s1_10 => ?_) (fun s1_10 => ?_)
  · have hok := hok.1 s1_10
    have hq := o_qp hq s1_10
    refine r_tabIn (pc := 1) (tgt := 163) (k := 10) (off := 162) hc dX5_count_1 s1_10 (by decide) (by decide) (by decide) (by decide) ?_
    refine r_aload_n (pc := 163) hc 0 dX5_count_163 rfl rfl ?_
    refine r_getr (pc := 164) (j := 6) hc 1 kk5 (o_lt hc (by decide)) rfl (by decide) kF_X5_19 rfl rfl dX5_count_164 ?_
    refine r_getiN (pc := 167) hc 2 kk2 (o_lt hc (by decide)) rfl (by decide) kN_X5_100 rfl rfl dX5_count_167 ?_
    exact r_iret hc hr rfl dX5_count_170 (hq _ rfl)
  have hok := hok.2 s1_10
  have hq := o_qn hq s1_10
  refine o_cs (p1 = 11) (fun s1_11 => ?_) (fun s1_11 => ?_)
  · have hok := hok.1 s1_11
    have hq := o_qp hq s1_11
    refine r_tabIn (pc := 1) (tgt := 171) (k := 11) (off := 170) hc dX5_count_1 s1_11 (by decide) (by decide) (by decide) (by decide) ?_
    refine r_aload_n (pc := 171) hc 0 dX5_count_171 rfl rfl ?_
    refine r_getr (pc := 172) (j := 30) hc 4 kk5 (o_lt hc (by decide)) rfl (by decide) kF_X5_40 rfl rfl dX5_count_172 ?_
    refine r_getiN (pc := 175) hc 1 kk0 (o_lt hc (by decide)) rfl (by decide) kN_X5_103 rfl rfl dX5_count_175 ?_
    exact r_iret hc hr rfl dX5_count_178 (hq _ rfl)
  have hok := hok.2 s1_11
  have hq := o_qn hq s1_11
  have e1_0 := lv_neT s1_0 (show (0 : Int32).toInt = 0 by decide)
  have e1_1 := lv_neT s1_1 (show (1 : Int32).toInt = 1 by decide)
  have e1_2 := lv_neT s1_2 (show (2 : Int32).toInt = 2 by decide)
  have e1_3 := lv_neT s1_3 (show (3 : Int32).toInt = 3 by decide)
  have e1_4 := lv_neT s1_4 (show (4 : Int32).toInt = 4 by decide)
  have e1_5 := lv_neT s1_5 (show (5 : Int32).toInt = 5 by decide)
  have e1_6 := lv_neT s1_6 (show (6 : Int32).toInt = 6 by decide)
  have e1_7 := lv_neT s1_7 (show (7 : Int32).toInt = 7 by decide)
  have e1_8 := lv_neT s1_8 (show (8 : Int32).toInt = 8 by decide)
  have e1_9 := lv_neT s1_9 (show (9 : Int32).toInt = 9 by decide)
  have e1_10 := lv_neT s1_10 (show (10 : Int32).toInt = 10 by decide)
  have e1_11 := lv_neT s1_11 (show (11 : Int32).toInt = 11 by decide)
  refine r_tabOut (pc := 1) (tgt := 179) hc dX5_count_1 (by omega) (by decide) ?_
  refine r_aload_n (pc := 179) hc 0 dX5_count_179 rfl rfl ?_
  refine r_iload_n (pc := 180) hc 1 dX5_count_180 rfl rfl ?_
  refine r_bipush (pc := 181) (v := 20) hc dX5_count_181 (by decide) ?_
  refine r_isub (pc := 183) hc dX5_count_183 ?_
  obtain ⟨hs5, hok⟩ := hok
  refine r_callV_i (pc := 184) (as := [.int _]) hc (c_X5_settingCount l _ hs5) kk5 (o_lt hc (by decide)) rfl mV_X5_settingCount kM_X5_106 ⟨Nat.le_of_ble_eq_true rfl, Nat.le_of_ble_eq_true rfl⟩ ⟨Nat.le_of_ble_eq_true rfl, Nat.le_of_ble_eq_true rfl⟩ rfl rfl (Nat.le_of_ble_eq_true rfl) dX5_count_184 (fun r σ' h => ?_)
  obtain ⟨rfl, rfl⟩ := h
  exact r_iret hc hr rfl dX5_count_187 (hq _ rfl)
noncomputable def f_X5_learn  (σ : Sg) : Int32 × Sg :=
  o_ite ((f_X5_isOutside (f_X3_excess 0 σ) (-20) 20 σ) = 0) (
    o_ite ((f_X5_isOutside (f_X3_excess 1 σ) (-20) 20 σ) = 0) (
      o_ite ((f_X5_isOutside (f_X3_excess 2 σ) (-20) 20 σ) = 0) (
        let σ8 := f_X2_keep σ
        let r13 := f_X5_cell 0 (f_X5_sectorOf (f_X3_angle σ8) σ8) σ8
        o_ite ((f_X5_at 5 r13 σ8) = (f_X3_excess 0 σ8)) (
          let r16 := f_X5_cell 0 (f_X5_sectorOf (f_X3_angle σ8) σ8) σ8
          let σ18 := f_X5_put 5 r16 (f_X3_excess 0 σ8) σ8
          let r21 := f_X5_cell 1 (f_X5_sectorOf (f_X3_angle σ8) σ8) σ18
          o_ite ((f_X5_at 5 r21 σ18) = (f_X3_excess 1 σ18)) (
            let r24 := f_X5_cell 1 (f_X5_sectorOf (f_X3_angle σ8) σ8) σ18
            let σ26 := f_X5_put 5 r24 (f_X3_excess 1 σ18) σ18
            let r29 := f_X5_cell 2 (f_X5_sectorOf (f_X3_angle σ8) σ8) σ26
            o_ite ((f_X5_at 5 r29 σ26) = (f_X3_excess 2 σ26)) (
              let r32 := f_X5_cell 2 (f_X5_sectorOf (f_X3_angle σ8) σ8) σ26
              let σ34 := f_X5_put 5 r32 (f_X3_excess 2 σ26) σ26
              (0, σ34)) (
              let r36 := f_X5_cell 2 (f_X5_sectorOf (f_X3_angle σ8) σ8) σ26
              let σ38 := f_X5_put 5 r36 (f_X3_excess 2 σ26) σ26
              (1, σ38))) (
            let r40 := f_X5_cell 1 (f_X5_sectorOf (f_X3_angle σ8) σ8) σ18
            let σ42 := f_X5_put 5 r40 (f_X3_excess 1 σ18) σ18
            let r45 := f_X5_cell 2 (f_X5_sectorOf (f_X3_angle σ8) σ8) σ42
            o_ite ((f_X5_at 5 r45 σ42) = (f_X3_excess 2 σ42)) (
              let r48 := f_X5_cell 2 (f_X5_sectorOf (f_X3_angle σ8) σ8) σ42
              let σ50 := f_X5_put 5 r48 (f_X3_excess 2 σ42) σ42
              (1, σ50)) (
              let r52 := f_X5_cell 2 (f_X5_sectorOf (f_X3_angle σ8) σ8) σ42
              let σ54 := f_X5_put 5 r52 (f_X3_excess 2 σ42) σ42
              (2, σ54)))) (
          let r56 := f_X5_cell 0 (f_X5_sectorOf (f_X3_angle σ8) σ8) σ8
          let σ58 := f_X5_put 5 r56 (f_X3_excess 0 σ8) σ8
          let r61 := f_X5_cell 1 (f_X5_sectorOf (f_X3_angle σ8) σ8) σ58
          o_ite ((f_X5_at 5 r61 σ58) = (f_X3_excess 1 σ58)) (
            let r64 := f_X5_cell 1 (f_X5_sectorOf (f_X3_angle σ8) σ8) σ58
            let σ66 := f_X5_put 5 r64 (f_X3_excess 1 σ58) σ58
            let r69 := f_X5_cell 2 (f_X5_sectorOf (f_X3_angle σ8) σ8) σ66
            o_ite ((f_X5_at 5 r69 σ66) = (f_X3_excess 2 σ66)) (
              let r72 := f_X5_cell 2 (f_X5_sectorOf (f_X3_angle σ8) σ8) σ66
              let σ74 := f_X5_put 5 r72 (f_X3_excess 2 σ66) σ66
              (1, σ74)) (
              let r76 := f_X5_cell 2 (f_X5_sectorOf (f_X3_angle σ8) σ8) σ66
              let σ78 := f_X5_put 5 r76 (f_X3_excess 2 σ66) σ66
              (2, σ78))) (
            let r80 := f_X5_cell 1 (f_X5_sectorOf (f_X3_angle σ8) σ8) σ58
            let σ82 := f_X5_put 5 r80 (f_X3_excess 1 σ58) σ58
            let r85 := f_X5_cell 2 (f_X5_sectorOf (f_X3_angle σ8) σ8) σ82
            o_ite ((f_X5_at 5 r85 σ82) = (f_X3_excess 2 σ82)) (
              let r88 := f_X5_cell 2 (f_X5_sectorOf (f_X3_angle σ8) σ8) σ82
              let σ90 := f_X5_put 5 r88 (f_X3_excess 2 σ82) σ82
              (2, σ90)) (
              let r92 := f_X5_cell 2 (f_X5_sectorOf (f_X3_angle σ8) σ8) σ82
              let σ94 := f_X5_put 5 r92 (f_X3_excess 2 σ82) σ82
              (3, σ94))))) (
        ((-2), σ))) (
      ((-2), σ))) (
    ((-2), σ))
def ok_X5_learn  (σ : Sg) : Prop :=
  (ok_X3_excess 0 σ) ∧ ((ok_X5_isOutside (f_X3_excess 0 σ) (-20) 20 σ) ∧ ((((f_X5_isOutside (f_X3_excess 0 σ) (-20) 20 σ) = 0) →
    (ok_X3_excess 1 σ) ∧ ((ok_X5_isOutside (f_X3_excess 1 σ) (-20) 20 σ) ∧ ((((f_X5_isOutside (f_X3_excess 1 σ) (-20) 20 σ) = 0) →
      (ok_X3_excess 2 σ) ∧ ((ok_X5_isOutside (f_X3_excess 2 σ) (-20) 20 σ) ∧ ((((f_X5_isOutside (f_X3_excess 2 σ) (-20) 20 σ) = 0) →
        (ok_X2_keep σ) ∧ (let σ8 := f_X2_keep σ
        (ok_X3_angle σ8) ∧ ((ok_X5_sectorOf (f_X3_angle σ8) σ8) ∧ ((ok_X3_excess 0 σ8) ∧ ((ok_X5_cell 0 (f_X5_sectorOf (f_X3_angle σ8) σ8) σ8) ∧ (let r13 := f_X5_cell 0 (f_X5_sectorOf (f_X3_angle σ8) σ8) σ8
        (ok_X5_at 5 r13 σ8) ∧ ((((f_X5_at 5 r13 σ8) = (f_X3_excess 0 σ8)) →
          (ok_X5_cell 0 (f_X5_sectorOf (f_X3_angle σ8) σ8) σ8) ∧ (let r16 := f_X5_cell 0 (f_X5_sectorOf (f_X3_angle σ8) σ8) σ8
          (ok_X5_put 5 r16 (f_X3_excess 0 σ8) σ8) ∧ (let σ18 := f_X5_put 5 r16 (f_X3_excess 0 σ8) σ8
          (ok_X3_excess 1 σ18) ∧ ((ok_X5_cell 1 (f_X5_sectorOf (f_X3_angle σ8) σ8) σ18) ∧ (let r21 := f_X5_cell 1 (f_X5_sectorOf (f_X3_angle σ8) σ8) σ18
          (ok_X5_at 5 r21 σ18) ∧ ((((f_X5_at 5 r21 σ18) = (f_X3_excess 1 σ18)) →
            (ok_X5_cell 1 (f_X5_sectorOf (f_X3_angle σ8) σ8) σ18) ∧ (let r24 := f_X5_cell 1 (f_X5_sectorOf (f_X3_angle σ8) σ8) σ18
            (ok_X5_put 5 r24 (f_X3_excess 1 σ18) σ18) ∧ (let σ26 := f_X5_put 5 r24 (f_X3_excess 1 σ18) σ18
            (ok_X3_excess 2 σ26) ∧ ((ok_X5_cell 2 (f_X5_sectorOf (f_X3_angle σ8) σ8) σ26) ∧ (let r29 := f_X5_cell 2 (f_X5_sectorOf (f_X3_angle σ8) σ8) σ26
            (ok_X5_at 5 r29 σ26) ∧ ((((f_X5_at 5 r29 σ26) = (f_X3_excess 2 σ26)) →
              (ok_X5_cell 2 (f_X5_sectorOf (f_X3_angle σ8) σ8) σ26) ∧ (let r32 := f_X5_cell 2 (f_X5_sectorOf (f_X3_angle σ8) σ8) σ26
              (ok_X5_put 5 r32 (f_X3_excess 2 σ26) σ26) ∧ (let σ34 := f_X5_put 5 r32 (f_X3_excess 2 σ26) σ26
              True))) ∧ (¬ ((f_X5_at 5 r29 σ26) = (f_X3_excess 2 σ26)) →
              (ok_X5_cell 2 (f_X5_sectorOf (f_X3_angle σ8) σ8) σ26) ∧ (let r36 := f_X5_cell 2 (f_X5_sectorOf (f_X3_angle σ8) σ8) σ26
              (ok_X5_put 5 r36 (f_X3_excess 2 σ26) σ26) ∧ (let σ38 := f_X5_put 5 r36 (f_X3_excess 2 σ26) σ26
              True))))))))) ∧ (¬ ((f_X5_at 5 r21 σ18) = (f_X3_excess 1 σ18)) →
            (ok_X5_cell 1 (f_X5_sectorOf (f_X3_angle σ8) σ8) σ18) ∧ (let r40 := f_X5_cell 1 (f_X5_sectorOf (f_X3_angle σ8) σ8) σ18
            (ok_X5_put 5 r40 (f_X3_excess 1 σ18) σ18) ∧ (let σ42 := f_X5_put 5 r40 (f_X3_excess 1 σ18) σ18
            (ok_X3_excess 2 σ42) ∧ ((ok_X5_cell 2 (f_X5_sectorOf (f_X3_angle σ8) σ8) σ42) ∧ (let r45 := f_X5_cell 2 (f_X5_sectorOf (f_X3_angle σ8) σ8) σ42
            (ok_X5_at 5 r45 σ42) ∧ ((((f_X5_at 5 r45 σ42) = (f_X3_excess 2 σ42)) →
              (ok_X5_cell 2 (f_X5_sectorOf (f_X3_angle σ8) σ8) σ42) ∧ (let r48 := f_X5_cell 2 (f_X5_sectorOf (f_X3_angle σ8) σ8) σ42
              (ok_X5_put 5 r48 (f_X3_excess 2 σ42) σ42) ∧ (let σ50 := f_X5_put 5 r48 (f_X3_excess 2 σ42) σ42
              True))) ∧ (¬ ((f_X5_at 5 r45 σ42) = (f_X3_excess 2 σ42)) →
              (ok_X5_cell 2 (f_X5_sectorOf (f_X3_angle σ8) σ8) σ42) ∧ (let r52 := f_X5_cell 2 (f_X5_sectorOf (f_X3_angle σ8) σ8) σ42
              (ok_X5_put 5 r52 (f_X3_excess 2 σ42) σ42) ∧ (let σ54 := f_X5_put 5 r52 (f_X3_excess 2 σ42) σ42
              True))))))))))))))) ∧ (¬ ((f_X5_at 5 r13 σ8) = (f_X3_excess 0 σ8)) →
          (ok_X5_cell 0 (f_X5_sectorOf (f_X3_angle σ8) σ8) σ8) ∧ (let r56 := f_X5_cell 0 (f_X5_sectorOf (f_X3_angle σ8) σ8) σ8
          (ok_X5_put 5 r56 (f_X3_excess 0 σ8) σ8) ∧ (let σ58 := f_X5_put 5 r56 (f_X3_excess 0 σ8) σ8
          (ok_X3_excess 1 σ58) ∧ ((ok_X5_cell 1 (f_X5_sectorOf (f_X3_angle σ8) σ8) σ58) ∧ (let r61 := f_X5_cell 1 (f_X5_sectorOf (f_X3_angle σ8) σ8) σ58
          (ok_X5_at 5 r61 σ58) ∧ ((((f_X5_at 5 r61 σ58) = (f_X3_excess 1 σ58)) →
            (ok_X5_cell 1 (f_X5_sectorOf (f_X3_angle σ8) σ8) σ58) ∧ (let r64 := f_X5_cell 1 (f_X5_sectorOf (f_X3_angle σ8) σ8) σ58
            (ok_X5_put 5 r64 (f_X3_excess 1 σ58) σ58) ∧ (let σ66 := f_X5_put 5 r64 (f_X3_excess 1 σ58) σ58
            (ok_X3_excess 2 σ66) ∧ ((ok_X5_cell 2 (f_X5_sectorOf (f_X3_angle σ8) σ8) σ66) ∧ (let r69 := f_X5_cell 2 (f_X5_sectorOf (f_X3_angle σ8) σ8) σ66
            (ok_X5_at 5 r69 σ66) ∧ ((((f_X5_at 5 r69 σ66) = (f_X3_excess 2 σ66)) →
              (ok_X5_cell 2 (f_X5_sectorOf (f_X3_angle σ8) σ8) σ66) ∧ (let r72 := f_X5_cell 2 (f_X5_sectorOf (f_X3_angle σ8) σ8) σ66
              (ok_X5_put 5 r72 (f_X3_excess 2 σ66) σ66) ∧ (let σ74 := f_X5_put 5 r72 (f_X3_excess 2 σ66) σ66
              True))) ∧ (¬ ((f_X5_at 5 r69 σ66) = (f_X3_excess 2 σ66)) →
              (ok_X5_cell 2 (f_X5_sectorOf (f_X3_angle σ8) σ8) σ66) ∧ (let r76 := f_X5_cell 2 (f_X5_sectorOf (f_X3_angle σ8) σ8) σ66
              (ok_X5_put 5 r76 (f_X3_excess 2 σ66) σ66) ∧ (let σ78 := f_X5_put 5 r76 (f_X3_excess 2 σ66) σ66
              True))))))))) ∧ (¬ ((f_X5_at 5 r61 σ58) = (f_X3_excess 1 σ58)) →
            (ok_X5_cell 1 (f_X5_sectorOf (f_X3_angle σ8) σ8) σ58) ∧ (let r80 := f_X5_cell 1 (f_X5_sectorOf (f_X3_angle σ8) σ8) σ58
            (ok_X5_put 5 r80 (f_X3_excess 1 σ58) σ58) ∧ (let σ82 := f_X5_put 5 r80 (f_X3_excess 1 σ58) σ58
            (ok_X3_excess 2 σ82) ∧ ((ok_X5_cell 2 (f_X5_sectorOf (f_X3_angle σ8) σ8) σ82) ∧ (let r85 := f_X5_cell 2 (f_X5_sectorOf (f_X3_angle σ8) σ8) σ82
            (ok_X5_at 5 r85 σ82) ∧ ((((f_X5_at 5 r85 σ82) = (f_X3_excess 2 σ82)) →
              (ok_X5_cell 2 (f_X5_sectorOf (f_X3_angle σ8) σ8) σ82) ∧ (let r88 := f_X5_cell 2 (f_X5_sectorOf (f_X3_angle σ8) σ8) σ82
              (ok_X5_put 5 r88 (f_X3_excess 2 σ82) σ82) ∧ (let σ90 := f_X5_put 5 r88 (f_X3_excess 2 σ82) σ82
              True))) ∧ (¬ ((f_X5_at 5 r85 σ82) = (f_X3_excess 2 σ82)) →
              (ok_X5_cell 2 (f_X5_sectorOf (f_X3_angle σ8) σ8) σ82) ∧ (let r92 := f_X5_cell 2 (f_X5_sectorOf (f_X3_angle σ8) σ8) σ82
              (ok_X5_put 5 r92 (f_X3_excess 2 σ82) σ82) ∧ (let σ94 := f_X5_put 5 r92 (f_X3_excess 2 σ82) σ82
              True)))))))))))))))))))))) ∧ (¬ ((f_X5_isOutside (f_X3_excess 2 σ) (-20) 20 σ) = 0) →
        True)))) ∧ (¬ ((f_X5_isOutside (f_X3_excess 1 σ) (-20) 20 σ) = 0) →
      True)))) ∧ (¬ ((f_X5_isOutside (f_X3_excess 0 σ) (-20) 20 σ) = 0) →
    True)))
set_option maxHeartbeats 4000000 in
set_option maxRecDepth 100000 in
theorem c_X5_learn (l : Launch) (G : Gt)   {σ : Sg} (hok : ok_X5_learn  σ) : o_Ci l G yX5_learn cX5_learn 5 (some .int) 3 68 [.ref (gAd G 0)] σ (fun r σ' => r = (f_X5_learn  σ).1 ∧ σ' = (f_X5_learn  σ).2) := by
  refine o_Ci.of (by decide +kernel) (Nat.le_of_ble_eq_true rfl) ?_
  intro p e s m args below meth c hc hr
  have hq : ∀ q : Int32 × Sg, q = f_X5_learn  σ → (fun r σ' => r = (f_X5_learn  σ).1 ∧ σ' = (f_X5_learn  σ).2) q.1 q.2 := fun q h => ⟨congrArg Prod.fst h, congrArg Prod.snd h⟩
  refine r_iconst (pc := 0) (v := 0) hc dX5_learn_0 rfl ?_
  refine r_istore_n (pc := 1) (lv' := [(1, _), (0, _)]) hc dX5_learn_1 rfl (by decide) rfl ?_
  refine r_iload_n (pc := 2) hc 0 dX5_learn_2 rfl rfl ?_
  refine r_iconst (pc := 3) (v := 3) hc dX5_learn_3 rfl ?_
  refine r_icmp_ge (pc := 4) (tgt := 34) hc dX5_learn_4 (by decide) (fun h => absurd h (by decide)) (fun _ => ?_)
  refine r_aload_n (pc := 7) hc 1 dX5_learn_7 rfl rfl ?_
  refine r_getr (pc := 8) (j := 1) hc 0 kk5 (o_lt hc (by decide)) rfl (by decide) kF_X5_12 rfl rfl dX5_learn_8 ?_
  refine r_iload_n (pc := 11) hc 0 dX5_learn_11 rfl rfl ?_
  obtain ⟨hs1, hok⟩ := hok
  refine r_callVN_i (pc := 12) (as := [.int _]) hc (c_X3_excess l _ hs1) kk3 (o_lt hc (by decide)) rfl mV_X3_excess kN_X5_174 ⟨Nat.le_of_ble_eq_true rfl, Nat.le_of_ble_eq_true rfl⟩ ⟨Nat.le_of_ble_eq_true rfl, Nat.le_of_ble_eq_true rfl⟩ rfl rfl (Nat.le_of_ble_eq_true rfl) dX5_learn_12 (fun r σ' h => ?_)
  obtain ⟨rfl, rfl⟩ := h
  refine r_bipush (pc := 15) (v := (-20)) hc dX5_learn_15 (by decide) ?_
  refine r_bipush (pc := 17) (v := 20) hc dX5_learn_17 (by decide) ?_
  obtain ⟨hs2, hok⟩ := hok
  refine r_callS_i (pc := 19) (as := [.int _, .int _, .int _]) hc (c_X5_isOutside l _ hs2) mS_X5_isOutside kM_X5_44 ⟨Nat.le_of_ble_eq_true rfl, Nat.le_of_ble_eq_true rfl⟩ ⟨Nat.le_of_ble_eq_true rfl, Nat.le_of_ble_eq_true rfl⟩ rfl rfl (Nat.le_of_ble_eq_true rfl) dX5_learn_19 (fun r σ' h => ?_)
  obtain ⟨rfl, rfl⟩ := h
  refine r_if_eq (pc := 22) (tgt := 28) hc dX5_learn_22 (by decide) (fun c22 => ?_) (fun c22 => ?_)
  · have hok := hok.1 c22
    have hq := o_qp hq c22
    refine r_iinc (pc := 28) (q := 0) (v := 1) (lv' := [(1, _), (0, _)]) hc dX5_learn_28 rfl (by decide) (by decide) rfl ?_
    refine r_goto (pc := 31) (tgt := 2) hc dX5_learn_31 (by decide) ?_
    refine r_iload_n (pc := 2) hc 0 dX5_learn_2 rfl rfl ?_
    refine r_iconst (pc := 3) (v := 3) hc dX5_learn_3 rfl ?_
    refine r_icmp_ge (pc := 4) (tgt := 34) hc dX5_learn_4 (by decide) (fun h => absurd h (by decide)) (fun _ => ?_)
    refine r_aload_n (pc := 7) hc 1 dX5_learn_7 rfl rfl ?_
    refine r_getr (pc := 8) (j := 1) hc 0 kk5 (o_lt hc (by decide)) rfl (by decide) kF_X5_12 rfl rfl dX5_learn_8 ?_
    refine r_iload_n (pc := 11) hc 0 dX5_learn_11 rfl rfl ?_
    obtain ⟨hs3, hok⟩ := hok
    refine r_callVN_i (pc := 12) (as := [.int _]) hc (c_X3_excess l _ hs3) kk3 (o_lt hc (by decide)) rfl mV_X3_excess kN_X5_174 ⟨Nat.le_of_ble_eq_true rfl, Nat.le_of_ble_eq_true rfl⟩ ⟨Nat.le_of_ble_eq_true rfl, Nat.le_of_ble_eq_true rfl⟩ rfl rfl (Nat.le_of_ble_eq_true rfl) dX5_learn_12 (fun r σ' h => ?_)
    obtain ⟨rfl, rfl⟩ := h
    refine r_bipush (pc := 15) (v := (-20)) hc dX5_learn_15 (by decide) ?_
    refine r_bipush (pc := 17) (v := 20) hc dX5_learn_17 (by decide) ?_
    obtain ⟨hs4, hok⟩ := hok
    refine r_callS_i (pc := 19) (as := [.int _, .int _, .int _]) hc (c_X5_isOutside l _ hs4) mS_X5_isOutside kM_X5_44 ⟨Nat.le_of_ble_eq_true rfl, Nat.le_of_ble_eq_true rfl⟩ ⟨Nat.le_of_ble_eq_true rfl, Nat.le_of_ble_eq_true rfl⟩ rfl rfl (Nat.le_of_ble_eq_true rfl) dX5_learn_19 (fun r σ' h => ?_)
    obtain ⟨rfl, rfl⟩ := h
    refine r_if_eq (pc := 22) (tgt := 28) hc dX5_learn_22 (by decide) (fun c22 => ?_) (fun c22 => ?_)
    · have hok := hok.1 c22
      have hq := o_qp hq c22
      refine r_iinc (pc := 28) (q := 0) (v := 2) (lv' := [(1, _), (0, _)]) hc dX5_learn_28 rfl (by decide) (by decide) rfl ?_
      refine r_goto (pc := 31) (tgt := 2) hc dX5_learn_31 (by decide) ?_
      refine r_iload_n (pc := 2) hc 0 dX5_learn_2 rfl rfl ?_
      refine r_iconst (pc := 3) (v := 3) hc dX5_learn_3 rfl ?_
      refine r_icmp_ge (pc := 4) (tgt := 34) hc dX5_learn_4 (by decide) (fun h => absurd h (by decide)) (fun _ => ?_)
      refine r_aload_n (pc := 7) hc 1 dX5_learn_7 rfl rfl ?_
      refine r_getr (pc := 8) (j := 1) hc 0 kk5 (o_lt hc (by decide)) rfl (by decide) kF_X5_12 rfl rfl dX5_learn_8 ?_
      refine r_iload_n (pc := 11) hc 0 dX5_learn_11 rfl rfl ?_
      obtain ⟨hs5, hok⟩ := hok
      refine r_callVN_i (pc := 12) (as := [.int _]) hc (c_X3_excess l _ hs5) kk3 (o_lt hc (by decide)) rfl mV_X3_excess kN_X5_174 ⟨Nat.le_of_ble_eq_true rfl, Nat.le_of_ble_eq_true rfl⟩ ⟨Nat.le_of_ble_eq_true rfl, Nat.le_of_ble_eq_true rfl⟩ rfl rfl (Nat.le_of_ble_eq_true rfl) dX5_learn_12 (fun r σ' h => ?_)
      obtain ⟨rfl, rfl⟩ := h
      refine r_bipush (pc := 15) (v := (-20)) hc dX5_learn_15 (by decide) ?_
      refine r_bipush (pc := 17) (v := 20) hc dX5_learn_17 (by decide) ?_
      obtain ⟨hs6, hok⟩ := hok
      refine r_callS_i (pc := 19) (as := [.int _, .int _, .int _]) hc (c_X5_isOutside l _ hs6) mS_X5_isOutside kM_X5_44 ⟨Nat.le_of_ble_eq_true rfl, Nat.le_of_ble_eq_true rfl⟩ ⟨Nat.le_of_ble_eq_true rfl, Nat.le_of_ble_eq_true rfl⟩ rfl rfl (Nat.le_of_ble_eq_true rfl) dX5_learn_19 (fun r σ' h => ?_)
      obtain ⟨rfl, rfl⟩ := h
      refine r_if_eq (pc := 22) (tgt := 28) hc dX5_learn_22 (by decide) (fun c22 => ?_) (fun c22 => ?_)
      · have hok := hok.1 c22
        have hq := o_qp hq c22
        refine r_iinc (pc := 28) (q := 0) (v := 3) (lv' := [(1, _), (0, _)]) hc dX5_learn_28 rfl (by decide) (by decide) rfl ?_
        refine r_goto (pc := 31) (tgt := 2) hc dX5_learn_31 (by decide) ?_
        refine r_iload_n (pc := 2) hc 0 dX5_learn_2 rfl rfl ?_
        refine r_iconst (pc := 3) (v := 3) hc dX5_learn_3 rfl ?_
        refine r_icmp_ge (pc := 4) (tgt := 34) hc dX5_learn_4 (by decide) (fun _ => ?_) (fun h => absurd (by decide) h)
        refine r_aload_n (pc := 34) hc 1 dX5_learn_34 rfl rfl ?_
        refine r_getr (pc := 35) (j := 6) hc 1 kk5 (o_lt hc (by decide)) rfl (by decide) kF_X5_19 rfl rfl dX5_learn_35 ?_
        refine r_aload_n (pc := 38) hc 1 dX5_learn_38 rfl rfl ?_
        refine r_getr (pc := 39) (j := 1) hc 0 kk5 (o_lt hc (by decide)) rfl (by decide) kF_X5_12 rfl rfl dX5_learn_39 ?_
        obtain ⟨hs7, hok⟩ := hok
        refine r_callVN_v (pc := 42) (as := [.ref (gAd G _)]) hc (c_X2_keep l _ hs7) kk2 (o_lt hc (by decide)) rfl mV_X2_keep kN_X5_53 ⟨Nat.le_of_ble_eq_true rfl, Nat.le_of_ble_eq_true rfl⟩ ⟨Nat.le_of_ble_eq_true rfl, Nat.le_of_ble_eq_true rfl⟩ rfl rfl (Nat.le_of_ble_eq_true rfl) dX5_learn_42 (fun σ' h => ?_)
        subst h
        refine r_aload_n (pc := 45) hc 1 dX5_learn_45 rfl rfl ?_
        refine r_getr (pc := 46) (j := 1) hc 0 kk5 (o_lt hc (by decide)) rfl (by decide) kF_X5_12 rfl rfl dX5_learn_46 ?_
        obtain ⟨hs9, hok⟩ := hok
        refine r_callVN_i (pc := 49) (as := []) hc (c_X3_angle l _ hs9) kk3 (o_lt hc (by decide)) rfl mV_X3_angle kN_X5_81 ⟨Nat.le_of_ble_eq_true rfl, Nat.le_of_ble_eq_true rfl⟩ ⟨Nat.le_of_ble_eq_true rfl, Nat.le_of_ble_eq_true rfl⟩ rfl rfl (Nat.le_of_ble_eq_true rfl) dX5_learn_49 (fun r σ' h => ?_)
        obtain ⟨rfl, rfl⟩ := h
        obtain ⟨hs10, hok⟩ := hok
        refine r_callS_i (pc := 52) (as := [.int _]) hc (c_X5_sectorOf l _ hs10) mS_X5_sectorOf kM_X5_177 ⟨Nat.le_of_ble_eq_true rfl, Nat.le_of_ble_eq_true rfl⟩ ⟨Nat.le_of_ble_eq_true rfl, Nat.le_of_ble_eq_true rfl⟩ rfl rfl (Nat.le_of_ble_eq_true rfl) dX5_learn_52 (fun r σ' h => ?_)
        obtain ⟨rfl, rfl⟩ := h
        refine r_istore_n (pc := 55) (lv' := [(1, _), (0, _)]) hc dX5_learn_55 rfl (by decide) rfl ?_
        refine r_iconst (pc := 56) (v := 0) hc dX5_learn_56 rfl ?_
        refine r_istore_n (pc := 57) (lv' := [(2, _), (1, _), (0, _)]) hc dX5_learn_57 rfl (by decide) rfl ?_
        refine r_iconst (pc := 58) (v := 0) hc dX5_learn_58 rfl ?_
        refine r_istore_n (pc := 59) (lv' := [(3, _), (2, _), (1, _), (0, _)]) hc dX5_learn_59 rfl (by decide) rfl ?_
        refine r_iload_n (pc := 60) hc 0 dX5_learn_60 rfl rfl ?_
        refine r_iconst (pc := 61) (v := 3) hc dX5_learn_61 rfl ?_
        refine r_icmp_ge (pc := 62) (tgt := 121) hc dX5_learn_62 (by decide) (fun h => absurd h (by decide)) (fun _ => ?_)
        refine r_aload_n (pc := 65) hc 3 dX5_learn_65 rfl rfl ?_
        refine r_getr (pc := 66) (j := 1) hc 0 kk5 (o_lt hc (by decide)) rfl (by decide) kF_X5_12 rfl rfl dX5_learn_66 ?_
        refine r_iload_n (pc := 69) hc 0 dX5_learn_69 rfl rfl ?_
        obtain ⟨hs11, hok⟩ := hok
        refine r_callVN_i (pc := 70) (as := [.int _]) hc (c_X3_excess l _ hs11) kk3 (o_lt hc (by decide)) rfl mV_X3_excess kN_X5_174 ⟨Nat.le_of_ble_eq_true rfl, Nat.le_of_ble_eq_true rfl⟩ ⟨Nat.le_of_ble_eq_true rfl, Nat.le_of_ble_eq_true rfl⟩ rfl rfl (Nat.le_of_ble_eq_true rfl) dX5_learn_70 (fun r σ' h => ?_)
        obtain ⟨rfl, rfl⟩ := h
        refine r_istore (pc := 73) (lv' := [(4, _), (3, _), (2, _), (1, _), (0, _)]) hc dX5_learn_73 (by decide) rfl ?_
        refine r_aload_n (pc := 75) hc 4 dX5_learn_75 rfl rfl ?_
        refine r_getr (pc := 76) (j := 1) hc 0 kk5 (o_lt hc (by decide)) rfl (by decide) kF_X5_12 rfl rfl dX5_learn_76 ?_
        refine r_getrN (pc := 79) (j := 5) hc 10 kk3 (o_lt hc (by decide)) rfl (by decide) kN_X5_171 rfl rfl dX5_learn_79 ?_
        refine r_iload_n (pc := 82) hc 1 dX5_learn_82 rfl rfl ?_
        refine r_iload_n (pc := 83) hc 3 dX5_learn_83 rfl rfl ?_
        obtain ⟨hs12, hok⟩ := hok
        refine r_callS_i (pc := 84) (as := [.int _, .int _]) hc (c_X5_cell l _ hs12) mS_X5_cell kM_X5_120 ⟨Nat.le_of_ble_eq_true rfl, Nat.le_of_ble_eq_true rfl⟩ ⟨Nat.le_of_ble_eq_true rfl, Nat.le_of_ble_eq_true rfl⟩ rfl rfl (Nat.le_of_ble_eq_true rfl) dX5_learn_84 (fun r σ' h => ?_)
        obtain ⟨rfl, rfl⟩ := h
        obtain ⟨hs14, hok⟩ := hok
        refine r_callS_i (pc := 87) (as := [.ref (gAd G _), .int _]) hc (c_X5_at l _ (Or.inl ⟨by decide, rfl⟩) hs14) mS_X5_at kM_X5_124 ⟨Nat.le_of_ble_eq_true rfl, Nat.le_of_ble_eq_true rfl⟩ ⟨Nat.le_of_ble_eq_true rfl, Nat.le_of_ble_eq_true rfl⟩ rfl rfl (Nat.le_of_ble_eq_true rfl) dX5_learn_87 (fun r σ' h => ?_)
        obtain ⟨rfl, rfl⟩ := h
        refine r_iload (pc := 90) hc 0 dX5_learn_90 rfl ?_
        refine r_icmp_eq (pc := 92) (tgt := 98) hc dX5_learn_92 (by decide) (fun c92 => ?_) (fun c92 => ?_)
        · have hok := hok.1 c92
          have hq := o_qp hq c92
          refine r_aload_n (pc := 98) hc 4 dX5_learn_98 rfl rfl ?_
          refine r_getr (pc := 99) (j := 1) hc 0 kk5 (o_lt hc (by decide)) rfl (by decide) kF_X5_12 rfl rfl dX5_learn_99 ?_
          refine r_getrN (pc := 102) (j := 5) hc 10 kk3 (o_lt hc (by decide)) rfl (by decide) kN_X5_171 rfl rfl dX5_learn_102 ?_
          refine r_iload_n (pc := 105) hc 1 dX5_learn_105 rfl rfl ?_
          refine r_iload_n (pc := 106) hc 3 dX5_learn_106 rfl rfl ?_
          obtain ⟨hs15, hok⟩ := hok
          refine r_callS_i (pc := 107) (as := [.int _, .int _]) hc (c_X5_cell l _ hs15) mS_X5_cell kM_X5_120 ⟨Nat.le_of_ble_eq_true rfl, Nat.le_of_ble_eq_true rfl⟩ ⟨Nat.le_of_ble_eq_true rfl, Nat.le_of_ble_eq_true rfl⟩ rfl rfl (Nat.le_of_ble_eq_true rfl) dX5_learn_107 (fun r σ' h => ?_)
          obtain ⟨rfl, rfl⟩ := h
          refine r_iload (pc := 110) hc 0 dX5_learn_110 rfl ?_
          obtain ⟨hs17, hok⟩ := hok
          refine r_callS_v (pc := 112) (as := [.ref (gAd G _), .int _, .int _]) hc (c_X5_put l _ ⟨(by decide), rfl⟩ hs17) mS_X5_put kM_X5_128 ⟨Nat.le_of_ble_eq_true rfl, Nat.le_of_ble_eq_true rfl⟩ ⟨Nat.le_of_ble_eq_true rfl, Nat.le_of_ble_eq_true rfl⟩ rfl rfl (Nat.le_of_ble_eq_true rfl) dX5_learn_112 (fun σ' h => ?_)
          subst h
          refine r_iinc (pc := 115) (q := 1) (v := 1) (lv' := [(3, _), (4, _), (2, _), (1, _), (0, _)]) hc dX5_learn_115 rfl (by decide) (by decide) rfl ?_
          refine r_goto (pc := 118) (tgt := 60) hc dX5_learn_118 (by decide) ?_
          refine r_iload_n (pc := 60) hc 0 dX5_learn_60 rfl rfl ?_
          refine r_iconst (pc := 61) (v := 3) hc dX5_learn_61 rfl ?_
          refine r_icmp_ge (pc := 62) (tgt := 121) hc dX5_learn_62 (by decide) (fun h => absurd h (by decide)) (fun _ => ?_)
          refine r_aload_n (pc := 65) hc 4 dX5_learn_65 rfl rfl ?_
          refine r_getr (pc := 66) (j := 1) hc 0 kk5 (o_lt hc (by decide)) rfl (by decide) kF_X5_12 rfl rfl dX5_learn_66 ?_
          refine r_iload_n (pc := 69) hc 0 dX5_learn_69 rfl rfl ?_
          obtain ⟨hs19, hok⟩ := hok
          refine r_callVN_i (pc := 70) (as := [.int _]) hc (c_X3_excess l _ hs19) kk3 (o_lt hc (by decide)) rfl mV_X3_excess kN_X5_174 ⟨Nat.le_of_ble_eq_true rfl, Nat.le_of_ble_eq_true rfl⟩ ⟨Nat.le_of_ble_eq_true rfl, Nat.le_of_ble_eq_true rfl⟩ rfl rfl (Nat.le_of_ble_eq_true rfl) dX5_learn_70 (fun r σ' h => ?_)
          obtain ⟨rfl, rfl⟩ := h
          refine r_istore (pc := 73) (lv' := [(4, _), (3, _), (2, _), (1, _), (0, _)]) hc dX5_learn_73 (by decide) rfl ?_
          refine r_aload_n (pc := 75) hc 4 dX5_learn_75 rfl rfl ?_
          refine r_getr (pc := 76) (j := 1) hc 0 kk5 (o_lt hc (by decide)) rfl (by decide) kF_X5_12 rfl rfl dX5_learn_76 ?_
          refine r_getrN (pc := 79) (j := 5) hc 10 kk3 (o_lt hc (by decide)) rfl (by decide) kN_X5_171 rfl rfl dX5_learn_79 ?_
          refine r_iload_n (pc := 82) hc 1 dX5_learn_82 rfl rfl ?_
          refine r_iload_n (pc := 83) hc 3 dX5_learn_83 rfl rfl ?_
          obtain ⟨hs20, hok⟩ := hok
          refine r_callS_i (pc := 84) (as := [.int _, .int _]) hc (c_X5_cell l _ hs20) mS_X5_cell kM_X5_120 ⟨Nat.le_of_ble_eq_true rfl, Nat.le_of_ble_eq_true rfl⟩ ⟨Nat.le_of_ble_eq_true rfl, Nat.le_of_ble_eq_true rfl⟩ rfl rfl (Nat.le_of_ble_eq_true rfl) dX5_learn_84 (fun r σ' h => ?_)
          obtain ⟨rfl, rfl⟩ := h
          obtain ⟨hs22, hok⟩ := hok
          refine r_callS_i (pc := 87) (as := [.ref (gAd G _), .int _]) hc (c_X5_at l _ (Or.inl ⟨by decide, rfl⟩) hs22) mS_X5_at kM_X5_124 ⟨Nat.le_of_ble_eq_true rfl, Nat.le_of_ble_eq_true rfl⟩ ⟨Nat.le_of_ble_eq_true rfl, Nat.le_of_ble_eq_true rfl⟩ rfl rfl (Nat.le_of_ble_eq_true rfl) dX5_learn_87 (fun r σ' h => ?_)
          obtain ⟨rfl, rfl⟩ := h
          refine r_iload (pc := 90) hc 0 dX5_learn_90 rfl ?_
          refine r_icmp_eq (pc := 92) (tgt := 98) hc dX5_learn_92 (by decide) (fun c92 => ?_) (fun c92 => ?_)
          · have hok := hok.1 c92
            have hq := o_qp hq c92
            refine r_aload_n (pc := 98) hc 4 dX5_learn_98 rfl rfl ?_
            refine r_getr (pc := 99) (j := 1) hc 0 kk5 (o_lt hc (by decide)) rfl (by decide) kF_X5_12 rfl rfl dX5_learn_99 ?_
            refine r_getrN (pc := 102) (j := 5) hc 10 kk3 (o_lt hc (by decide)) rfl (by decide) kN_X5_171 rfl rfl dX5_learn_102 ?_
            refine r_iload_n (pc := 105) hc 1 dX5_learn_105 rfl rfl ?_
            refine r_iload_n (pc := 106) hc 3 dX5_learn_106 rfl rfl ?_
            obtain ⟨hs23, hok⟩ := hok
            refine r_callS_i (pc := 107) (as := [.int _, .int _]) hc (c_X5_cell l _ hs23) mS_X5_cell kM_X5_120 ⟨Nat.le_of_ble_eq_true rfl, Nat.le_of_ble_eq_true rfl⟩ ⟨Nat.le_of_ble_eq_true rfl, Nat.le_of_ble_eq_true rfl⟩ rfl rfl (Nat.le_of_ble_eq_true rfl) dX5_learn_107 (fun r σ' h => ?_)
            obtain ⟨rfl, rfl⟩ := h
            refine r_iload (pc := 110) hc 0 dX5_learn_110 rfl ?_
            obtain ⟨hs25, hok⟩ := hok
            refine r_callS_v (pc := 112) (as := [.ref (gAd G _), .int _, .int _]) hc (c_X5_put l _ ⟨(by decide), rfl⟩ hs25) mS_X5_put kM_X5_128 ⟨Nat.le_of_ble_eq_true rfl, Nat.le_of_ble_eq_true rfl⟩ ⟨Nat.le_of_ble_eq_true rfl, Nat.le_of_ble_eq_true rfl⟩ rfl rfl (Nat.le_of_ble_eq_true rfl) dX5_learn_112 (fun σ' h => ?_)
            subst h
            refine r_iinc (pc := 115) (q := 1) (v := 2) (lv' := [(3, _), (4, _), (2, _), (1, _), (0, _)]) hc dX5_learn_115 rfl (by decide) (by decide) rfl ?_
            refine r_goto (pc := 118) (tgt := 60) hc dX5_learn_118 (by decide) ?_
            refine r_iload_n (pc := 60) hc 0 dX5_learn_60 rfl rfl ?_
            refine r_iconst (pc := 61) (v := 3) hc dX5_learn_61 rfl ?_
            refine r_icmp_ge (pc := 62) (tgt := 121) hc dX5_learn_62 (by decide) (fun h => absurd h (by decide)) (fun _ => ?_)
            refine r_aload_n (pc := 65) hc 4 dX5_learn_65 rfl rfl ?_
            refine r_getr (pc := 66) (j := 1) hc 0 kk5 (o_lt hc (by decide)) rfl (by decide) kF_X5_12 rfl rfl dX5_learn_66 ?_
            refine r_iload_n (pc := 69) hc 0 dX5_learn_69 rfl rfl ?_
            obtain ⟨hs27, hok⟩ := hok
            refine r_callVN_i (pc := 70) (as := [.int _]) hc (c_X3_excess l _ hs27) kk3 (o_lt hc (by decide)) rfl mV_X3_excess kN_X5_174 ⟨Nat.le_of_ble_eq_true rfl, Nat.le_of_ble_eq_true rfl⟩ ⟨Nat.le_of_ble_eq_true rfl, Nat.le_of_ble_eq_true rfl⟩ rfl rfl (Nat.le_of_ble_eq_true rfl) dX5_learn_70 (fun r σ' h => ?_)
            obtain ⟨rfl, rfl⟩ := h
            refine r_istore (pc := 73) (lv' := [(4, _), (3, _), (2, _), (1, _), (0, _)]) hc dX5_learn_73 (by decide) rfl ?_
            refine r_aload_n (pc := 75) hc 4 dX5_learn_75 rfl rfl ?_
            refine r_getr (pc := 76) (j := 1) hc 0 kk5 (o_lt hc (by decide)) rfl (by decide) kF_X5_12 rfl rfl dX5_learn_76 ?_
            refine r_getrN (pc := 79) (j := 5) hc 10 kk3 (o_lt hc (by decide)) rfl (by decide) kN_X5_171 rfl rfl dX5_learn_79 ?_
            refine r_iload_n (pc := 82) hc 1 dX5_learn_82 rfl rfl ?_
            refine r_iload_n (pc := 83) hc 3 dX5_learn_83 rfl rfl ?_
            obtain ⟨hs28, hok⟩ := hok
            refine r_callS_i (pc := 84) (as := [.int _, .int _]) hc (c_X5_cell l _ hs28) mS_X5_cell kM_X5_120 ⟨Nat.le_of_ble_eq_true rfl, Nat.le_of_ble_eq_true rfl⟩ ⟨Nat.le_of_ble_eq_true rfl, Nat.le_of_ble_eq_true rfl⟩ rfl rfl (Nat.le_of_ble_eq_true rfl) dX5_learn_84 (fun r σ' h => ?_)
            obtain ⟨rfl, rfl⟩ := h
            obtain ⟨hs30, hok⟩ := hok
            refine r_callS_i (pc := 87) (as := [.ref (gAd G _), .int _]) hc (c_X5_at l _ (Or.inl ⟨by decide, rfl⟩) hs30) mS_X5_at kM_X5_124 ⟨Nat.le_of_ble_eq_true rfl, Nat.le_of_ble_eq_true rfl⟩ ⟨Nat.le_of_ble_eq_true rfl, Nat.le_of_ble_eq_true rfl⟩ rfl rfl (Nat.le_of_ble_eq_true rfl) dX5_learn_87 (fun r σ' h => ?_)
            obtain ⟨rfl, rfl⟩ := h
            refine r_iload (pc := 90) hc 0 dX5_learn_90 rfl ?_
            refine r_icmp_eq (pc := 92) (tgt := 98) hc dX5_learn_92 (by decide) (fun c92 => ?_) (fun c92 => ?_)
            · have hok := hok.1 c92
              have hq := o_qp hq c92
              refine r_aload_n (pc := 98) hc 4 dX5_learn_98 rfl rfl ?_
              refine r_getr (pc := 99) (j := 1) hc 0 kk5 (o_lt hc (by decide)) rfl (by decide) kF_X5_12 rfl rfl dX5_learn_99 ?_
              refine r_getrN (pc := 102) (j := 5) hc 10 kk3 (o_lt hc (by decide)) rfl (by decide) kN_X5_171 rfl rfl dX5_learn_102 ?_
              refine r_iload_n (pc := 105) hc 1 dX5_learn_105 rfl rfl ?_
              refine r_iload_n (pc := 106) hc 3 dX5_learn_106 rfl rfl ?_
              obtain ⟨hs31, hok⟩ := hok
              refine r_callS_i (pc := 107) (as := [.int _, .int _]) hc (c_X5_cell l _ hs31) mS_X5_cell kM_X5_120 ⟨Nat.le_of_ble_eq_true rfl, Nat.le_of_ble_eq_true rfl⟩ ⟨Nat.le_of_ble_eq_true rfl, Nat.le_of_ble_eq_true rfl⟩ rfl rfl (Nat.le_of_ble_eq_true rfl) dX5_learn_107 (fun r σ' h => ?_)
              obtain ⟨rfl, rfl⟩ := h
              refine r_iload (pc := 110) hc 0 dX5_learn_110 rfl ?_
              obtain ⟨hs33, hok⟩ := hok
              refine r_callS_v (pc := 112) (as := [.ref (gAd G _), .int _, .int _]) hc (c_X5_put l _ ⟨(by decide), rfl⟩ hs33) mS_X5_put kM_X5_128 ⟨Nat.le_of_ble_eq_true rfl, Nat.le_of_ble_eq_true rfl⟩ ⟨Nat.le_of_ble_eq_true rfl, Nat.le_of_ble_eq_true rfl⟩ rfl rfl (Nat.le_of_ble_eq_true rfl) dX5_learn_112 (fun σ' h => ?_)
              subst h
              refine r_iinc (pc := 115) (q := 1) (v := 3) (lv' := [(3, _), (4, _), (2, _), (1, _), (0, _)]) hc dX5_learn_115 rfl (by decide) (by decide) rfl ?_
              refine r_goto (pc := 118) (tgt := 60) hc dX5_learn_118 (by decide) ?_
              refine r_iload_n (pc := 60) hc 0 dX5_learn_60 rfl rfl ?_
              refine r_iconst (pc := 61) (v := 3) hc dX5_learn_61 rfl ?_
              refine r_icmp_ge (pc := 62) (tgt := 121) hc dX5_learn_62 (by decide) (fun _ => ?_) (fun h => absurd (by decide) h)
              refine r_iload_n (pc := 121) hc 2 dX5_learn_121 rfl rfl ?_
              exact r_iret hc hr rfl dX5_learn_122 (hq (_, _) rfl)
            · have hok := hok.2 c92
              have hq := o_qn hq c92
              refine r_iinc (pc := 95) (q := 2) (v := 1) (lv' := [(2, _), (4, _), (3, _), (1, _), (0, _)]) hc dX5_learn_95 rfl (by decide) (by decide) rfl ?_
              refine r_aload_n (pc := 98) hc 4 dX5_learn_98 rfl rfl ?_
              refine r_getr (pc := 99) (j := 1) hc 0 kk5 (o_lt hc (by decide)) rfl (by decide) kF_X5_12 rfl rfl dX5_learn_99 ?_
              refine r_getrN (pc := 102) (j := 5) hc 10 kk3 (o_lt hc (by decide)) rfl (by decide) kN_X5_171 rfl rfl dX5_learn_102 ?_
              refine r_iload_n (pc := 105) hc 2 dX5_learn_105 rfl rfl ?_
              refine r_iload_n (pc := 106) hc 3 dX5_learn_106 rfl rfl ?_
              obtain ⟨hs35, hok⟩ := hok
              refine r_callS_i (pc := 107) (as := [.int _, .int _]) hc (c_X5_cell l _ hs35) mS_X5_cell kM_X5_120 ⟨Nat.le_of_ble_eq_true rfl, Nat.le_of_ble_eq_true rfl⟩ ⟨Nat.le_of_ble_eq_true rfl, Nat.le_of_ble_eq_true rfl⟩ rfl rfl (Nat.le_of_ble_eq_true rfl) dX5_learn_107 (fun r σ' h => ?_)
              obtain ⟨rfl, rfl⟩ := h
              refine r_iload (pc := 110) hc 1 dX5_learn_110 rfl ?_
              obtain ⟨hs37, hok⟩ := hok
              refine r_callS_v (pc := 112) (as := [.ref (gAd G _), .int _, .int _]) hc (c_X5_put l _ ⟨(by decide), rfl⟩ hs37) mS_X5_put kM_X5_128 ⟨Nat.le_of_ble_eq_true rfl, Nat.le_of_ble_eq_true rfl⟩ ⟨Nat.le_of_ble_eq_true rfl, Nat.le_of_ble_eq_true rfl⟩ rfl rfl (Nat.le_of_ble_eq_true rfl) dX5_learn_112 (fun σ' h => ?_)
              subst h
              refine r_iinc (pc := 115) (q := 2) (v := 3) (lv' := [(3, _), (2, _), (4, _), (1, _), (0, _)]) hc dX5_learn_115 rfl (by decide) (by decide) rfl ?_
              refine r_goto (pc := 118) (tgt := 60) hc dX5_learn_118 (by decide) ?_
              refine r_iload_n (pc := 60) hc 0 dX5_learn_60 rfl rfl ?_
              refine r_iconst (pc := 61) (v := 3) hc dX5_learn_61 rfl ?_
              refine r_icmp_ge (pc := 62) (tgt := 121) hc dX5_learn_62 (by decide) (fun _ => ?_) (fun h => absurd (by decide) h)
              refine r_iload_n (pc := 121) hc 1 dX5_learn_121 rfl rfl ?_
              exact r_iret hc hr rfl dX5_learn_122 (hq (_, _) rfl)
          · have hok := hok.2 c92
            have hq := o_qn hq c92
            refine r_iinc (pc := 95) (q := 2) (v := 1) (lv' := [(2, _), (4, _), (3, _), (1, _), (0, _)]) hc dX5_learn_95 rfl (by decide) (by decide) rfl ?_
            refine r_aload_n (pc := 98) hc 4 dX5_learn_98 rfl rfl ?_
            refine r_getr (pc := 99) (j := 1) hc 0 kk5 (o_lt hc (by decide)) rfl (by decide) kF_X5_12 rfl rfl dX5_learn_99 ?_
            refine r_getrN (pc := 102) (j := 5) hc 10 kk3 (o_lt hc (by decide)) rfl (by decide) kN_X5_171 rfl rfl dX5_learn_102 ?_
            refine r_iload_n (pc := 105) hc 2 dX5_learn_105 rfl rfl ?_
            refine r_iload_n (pc := 106) hc 3 dX5_learn_106 rfl rfl ?_
            obtain ⟨hs39, hok⟩ := hok
            refine r_callS_i (pc := 107) (as := [.int _, .int _]) hc (c_X5_cell l _ hs39) mS_X5_cell kM_X5_120 ⟨Nat.le_of_ble_eq_true rfl, Nat.le_of_ble_eq_true rfl⟩ ⟨Nat.le_of_ble_eq_true rfl, Nat.le_of_ble_eq_true rfl⟩ rfl rfl (Nat.le_of_ble_eq_true rfl) dX5_learn_107 (fun r σ' h => ?_)
            obtain ⟨rfl, rfl⟩ := h
            refine r_iload (pc := 110) hc 1 dX5_learn_110 rfl ?_
            obtain ⟨hs41, hok⟩ := hok
            refine r_callS_v (pc := 112) (as := [.ref (gAd G _), .int _, .int _]) hc (c_X5_put l _ ⟨(by decide), rfl⟩ hs41) mS_X5_put kM_X5_128 ⟨Nat.le_of_ble_eq_true rfl, Nat.le_of_ble_eq_true rfl⟩ ⟨Nat.le_of_ble_eq_true rfl, Nat.le_of_ble_eq_true rfl⟩ rfl rfl (Nat.le_of_ble_eq_true rfl) dX5_learn_112 (fun σ' h => ?_)
            subst h
            refine r_iinc (pc := 115) (q := 2) (v := 2) (lv' := [(3, _), (2, _), (4, _), (1, _), (0, _)]) hc dX5_learn_115 rfl (by decide) (by decide) rfl ?_
            refine r_goto (pc := 118) (tgt := 60) hc dX5_learn_118 (by decide) ?_
            refine r_iload_n (pc := 60) hc 0 dX5_learn_60 rfl rfl ?_
            refine r_iconst (pc := 61) (v := 3) hc dX5_learn_61 rfl ?_
            refine r_icmp_ge (pc := 62) (tgt := 121) hc dX5_learn_62 (by decide) (fun h => absurd h (by decide)) (fun _ => ?_)
            refine r_aload_n (pc := 65) hc 4 dX5_learn_65 rfl rfl ?_
            refine r_getr (pc := 66) (j := 1) hc 0 kk5 (o_lt hc (by decide)) rfl (by decide) kF_X5_12 rfl rfl dX5_learn_66 ?_
            refine r_iload_n (pc := 69) hc 0 dX5_learn_69 rfl rfl ?_
            obtain ⟨hs43, hok⟩ := hok
            refine r_callVN_i (pc := 70) (as := [.int _]) hc (c_X3_excess l _ hs43) kk3 (o_lt hc (by decide)) rfl mV_X3_excess kN_X5_174 ⟨Nat.le_of_ble_eq_true rfl, Nat.le_of_ble_eq_true rfl⟩ ⟨Nat.le_of_ble_eq_true rfl, Nat.le_of_ble_eq_true rfl⟩ rfl rfl (Nat.le_of_ble_eq_true rfl) dX5_learn_70 (fun r σ' h => ?_)
            obtain ⟨rfl, rfl⟩ := h
            refine r_istore (pc := 73) (lv' := [(4, _), (3, _), (2, _), (1, _), (0, _)]) hc dX5_learn_73 (by decide) rfl ?_
            refine r_aload_n (pc := 75) hc 4 dX5_learn_75 rfl rfl ?_
            refine r_getr (pc := 76) (j := 1) hc 0 kk5 (o_lt hc (by decide)) rfl (by decide) kF_X5_12 rfl rfl dX5_learn_76 ?_
            refine r_getrN (pc := 79) (j := 5) hc 10 kk3 (o_lt hc (by decide)) rfl (by decide) kN_X5_171 rfl rfl dX5_learn_79 ?_
            refine r_iload_n (pc := 82) hc 1 dX5_learn_82 rfl rfl ?_
            refine r_iload_n (pc := 83) hc 3 dX5_learn_83 rfl rfl ?_
            obtain ⟨hs44, hok⟩ := hok
            refine r_callS_i (pc := 84) (as := [.int _, .int _]) hc (c_X5_cell l _ hs44) mS_X5_cell kM_X5_120 ⟨Nat.le_of_ble_eq_true rfl, Nat.le_of_ble_eq_true rfl⟩ ⟨Nat.le_of_ble_eq_true rfl, Nat.le_of_ble_eq_true rfl⟩ rfl rfl (Nat.le_of_ble_eq_true rfl) dX5_learn_84 (fun r σ' h => ?_)
            obtain ⟨rfl, rfl⟩ := h
            obtain ⟨hs46, hok⟩ := hok
            refine r_callS_i (pc := 87) (as := [.ref (gAd G _), .int _]) hc (c_X5_at l _ (Or.inl ⟨by decide, rfl⟩) hs46) mS_X5_at kM_X5_124 ⟨Nat.le_of_ble_eq_true rfl, Nat.le_of_ble_eq_true rfl⟩ ⟨Nat.le_of_ble_eq_true rfl, Nat.le_of_ble_eq_true rfl⟩ rfl rfl (Nat.le_of_ble_eq_true rfl) dX5_learn_87 (fun r σ' h => ?_)
            obtain ⟨rfl, rfl⟩ := h
            refine r_iload (pc := 90) hc 0 dX5_learn_90 rfl ?_
            refine r_icmp_eq (pc := 92) (tgt := 98) hc dX5_learn_92 (by decide) (fun c92 => ?_) (fun c92 => ?_)
            · have hok := hok.1 c92
              have hq := o_qp hq c92
              refine r_aload_n (pc := 98) hc 4 dX5_learn_98 rfl rfl ?_
              refine r_getr (pc := 99) (j := 1) hc 0 kk5 (o_lt hc (by decide)) rfl (by decide) kF_X5_12 rfl rfl dX5_learn_99 ?_
              refine r_getrN (pc := 102) (j := 5) hc 10 kk3 (o_lt hc (by decide)) rfl (by decide) kN_X5_171 rfl rfl dX5_learn_102 ?_
              refine r_iload_n (pc := 105) hc 1 dX5_learn_105 rfl rfl ?_
              refine r_iload_n (pc := 106) hc 3 dX5_learn_106 rfl rfl ?_
              obtain ⟨hs47, hok⟩ := hok
              refine r_callS_i (pc := 107) (as := [.int _, .int _]) hc (c_X5_cell l _ hs47) mS_X5_cell kM_X5_120 ⟨Nat.le_of_ble_eq_true rfl, Nat.le_of_ble_eq_true rfl⟩ ⟨Nat.le_of_ble_eq_true rfl, Nat.le_of_ble_eq_true rfl⟩ rfl rfl (Nat.le_of_ble_eq_true rfl) dX5_learn_107 (fun r σ' h => ?_)
              obtain ⟨rfl, rfl⟩ := h
              refine r_iload (pc := 110) hc 0 dX5_learn_110 rfl ?_
              obtain ⟨hs49, hok⟩ := hok
              refine r_callS_v (pc := 112) (as := [.ref (gAd G _), .int _, .int _]) hc (c_X5_put l _ ⟨(by decide), rfl⟩ hs49) mS_X5_put kM_X5_128 ⟨Nat.le_of_ble_eq_true rfl, Nat.le_of_ble_eq_true rfl⟩ ⟨Nat.le_of_ble_eq_true rfl, Nat.le_of_ble_eq_true rfl⟩ rfl rfl (Nat.le_of_ble_eq_true rfl) dX5_learn_112 (fun σ' h => ?_)
              subst h
              refine r_iinc (pc := 115) (q := 1) (v := 3) (lv' := [(3, _), (4, _), (2, _), (1, _), (0, _)]) hc dX5_learn_115 rfl (by decide) (by decide) rfl ?_
              refine r_goto (pc := 118) (tgt := 60) hc dX5_learn_118 (by decide) ?_
              refine r_iload_n (pc := 60) hc 0 dX5_learn_60 rfl rfl ?_
              refine r_iconst (pc := 61) (v := 3) hc dX5_learn_61 rfl ?_
              refine r_icmp_ge (pc := 62) (tgt := 121) hc dX5_learn_62 (by decide) (fun _ => ?_) (fun h => absurd (by decide) h)
              refine r_iload_n (pc := 121) hc 2 dX5_learn_121 rfl rfl ?_
              exact r_iret hc hr rfl dX5_learn_122 (hq (_, _) rfl)
            · have hok := hok.2 c92
              have hq := o_qn hq c92
              refine r_iinc (pc := 95) (q := 2) (v := 2) (lv' := [(2, _), (4, _), (3, _), (1, _), (0, _)]) hc dX5_learn_95 rfl (by decide) (by decide) rfl ?_
              refine r_aload_n (pc := 98) hc 4 dX5_learn_98 rfl rfl ?_
              refine r_getr (pc := 99) (j := 1) hc 0 kk5 (o_lt hc (by decide)) rfl (by decide) kF_X5_12 rfl rfl dX5_learn_99 ?_
              refine r_getrN (pc := 102) (j := 5) hc 10 kk3 (o_lt hc (by decide)) rfl (by decide) kN_X5_171 rfl rfl dX5_learn_102 ?_
              refine r_iload_n (pc := 105) hc 2 dX5_learn_105 rfl rfl ?_
              refine r_iload_n (pc := 106) hc 3 dX5_learn_106 rfl rfl ?_
              obtain ⟨hs51, hok⟩ := hok
              refine r_callS_i (pc := 107) (as := [.int _, .int _]) hc (c_X5_cell l _ hs51) mS_X5_cell kM_X5_120 ⟨Nat.le_of_ble_eq_true rfl, Nat.le_of_ble_eq_true rfl⟩ ⟨Nat.le_of_ble_eq_true rfl, Nat.le_of_ble_eq_true rfl⟩ rfl rfl (Nat.le_of_ble_eq_true rfl) dX5_learn_107 (fun r σ' h => ?_)
              obtain ⟨rfl, rfl⟩ := h
              refine r_iload (pc := 110) hc 1 dX5_learn_110 rfl ?_
              obtain ⟨hs53, hok⟩ := hok
              refine r_callS_v (pc := 112) (as := [.ref (gAd G _), .int _, .int _]) hc (c_X5_put l _ ⟨(by decide), rfl⟩ hs53) mS_X5_put kM_X5_128 ⟨Nat.le_of_ble_eq_true rfl, Nat.le_of_ble_eq_true rfl⟩ ⟨Nat.le_of_ble_eq_true rfl, Nat.le_of_ble_eq_true rfl⟩ rfl rfl (Nat.le_of_ble_eq_true rfl) dX5_learn_112 (fun σ' h => ?_)
              subst h
              refine r_iinc (pc := 115) (q := 2) (v := 3) (lv' := [(3, _), (2, _), (4, _), (1, _), (0, _)]) hc dX5_learn_115 rfl (by decide) (by decide) rfl ?_
              refine r_goto (pc := 118) (tgt := 60) hc dX5_learn_118 (by decide) ?_
              refine r_iload_n (pc := 60) hc 0 dX5_learn_60 rfl rfl ?_
              refine r_iconst (pc := 61) (v := 3) hc dX5_learn_61 rfl ?_
              refine r_icmp_ge (pc := 62) (tgt := 121) hc dX5_learn_62 (by decide) (fun _ => ?_) (fun h => absurd (by decide) h)
              refine r_iload_n (pc := 121) hc 1 dX5_learn_121 rfl rfl ?_
              exact r_iret hc hr rfl dX5_learn_122 (hq (_, _) rfl)
        · have hok := hok.2 c92
          have hq := o_qn hq c92
          refine r_iinc (pc := 95) (q := 2) (v := 1) (lv' := [(2, _), (4, _), (3, _), (1, _), (0, _)]) hc dX5_learn_95 rfl (by decide) (by decide) rfl ?_
          refine r_aload_n (pc := 98) hc 4 dX5_learn_98 rfl rfl ?_
          refine r_getr (pc := 99) (j := 1) hc 0 kk5 (o_lt hc (by decide)) rfl (by decide) kF_X5_12 rfl rfl dX5_learn_99 ?_
          refine r_getrN (pc := 102) (j := 5) hc 10 kk3 (o_lt hc (by decide)) rfl (by decide) kN_X5_171 rfl rfl dX5_learn_102 ?_
          refine r_iload_n (pc := 105) hc 2 dX5_learn_105 rfl rfl ?_
          refine r_iload_n (pc := 106) hc 3 dX5_learn_106 rfl rfl ?_
          obtain ⟨hs55, hok⟩ := hok
          refine r_callS_i (pc := 107) (as := [.int _, .int _]) hc (c_X5_cell l _ hs55) mS_X5_cell kM_X5_120 ⟨Nat.le_of_ble_eq_true rfl, Nat.le_of_ble_eq_true rfl⟩ ⟨Nat.le_of_ble_eq_true rfl, Nat.le_of_ble_eq_true rfl⟩ rfl rfl (Nat.le_of_ble_eq_true rfl) dX5_learn_107 (fun r σ' h => ?_)
          obtain ⟨rfl, rfl⟩ := h
          refine r_iload (pc := 110) hc 1 dX5_learn_110 rfl ?_
          obtain ⟨hs57, hok⟩ := hok
          refine r_callS_v (pc := 112) (as := [.ref (gAd G _), .int _, .int _]) hc (c_X5_put l _ ⟨(by decide), rfl⟩ hs57) mS_X5_put kM_X5_128 ⟨Nat.le_of_ble_eq_true rfl, Nat.le_of_ble_eq_true rfl⟩ ⟨Nat.le_of_ble_eq_true rfl, Nat.le_of_ble_eq_true rfl⟩ rfl rfl (Nat.le_of_ble_eq_true rfl) dX5_learn_112 (fun σ' h => ?_)
          subst h
          refine r_iinc (pc := 115) (q := 2) (v := 1) (lv' := [(3, _), (2, _), (4, _), (1, _), (0, _)]) hc dX5_learn_115 rfl (by decide) (by decide) rfl ?_
          refine r_goto (pc := 118) (tgt := 60) hc dX5_learn_118 (by decide) ?_
          refine r_iload_n (pc := 60) hc 0 dX5_learn_60 rfl rfl ?_
          refine r_iconst (pc := 61) (v := 3) hc dX5_learn_61 rfl ?_
          refine r_icmp_ge (pc := 62) (tgt := 121) hc dX5_learn_62 (by decide) (fun h => absurd h (by decide)) (fun _ => ?_)
          refine r_aload_n (pc := 65) hc 4 dX5_learn_65 rfl rfl ?_
          refine r_getr (pc := 66) (j := 1) hc 0 kk5 (o_lt hc (by decide)) rfl (by decide) kF_X5_12 rfl rfl dX5_learn_66 ?_
          refine r_iload_n (pc := 69) hc 0 dX5_learn_69 rfl rfl ?_
          obtain ⟨hs59, hok⟩ := hok
          refine r_callVN_i (pc := 70) (as := [.int _]) hc (c_X3_excess l _ hs59) kk3 (o_lt hc (by decide)) rfl mV_X3_excess kN_X5_174 ⟨Nat.le_of_ble_eq_true rfl, Nat.le_of_ble_eq_true rfl⟩ ⟨Nat.le_of_ble_eq_true rfl, Nat.le_of_ble_eq_true rfl⟩ rfl rfl (Nat.le_of_ble_eq_true rfl) dX5_learn_70 (fun r σ' h => ?_)
          obtain ⟨rfl, rfl⟩ := h
          refine r_istore (pc := 73) (lv' := [(4, _), (3, _), (2, _), (1, _), (0, _)]) hc dX5_learn_73 (by decide) rfl ?_
          refine r_aload_n (pc := 75) hc 4 dX5_learn_75 rfl rfl ?_
          refine r_getr (pc := 76) (j := 1) hc 0 kk5 (o_lt hc (by decide)) rfl (by decide) kF_X5_12 rfl rfl dX5_learn_76 ?_
          refine r_getrN (pc := 79) (j := 5) hc 10 kk3 (o_lt hc (by decide)) rfl (by decide) kN_X5_171 rfl rfl dX5_learn_79 ?_
          refine r_iload_n (pc := 82) hc 1 dX5_learn_82 rfl rfl ?_
          refine r_iload_n (pc := 83) hc 3 dX5_learn_83 rfl rfl ?_
          obtain ⟨hs60, hok⟩ := hok
          refine r_callS_i (pc := 84) (as := [.int _, .int _]) hc (c_X5_cell l _ hs60) mS_X5_cell kM_X5_120 ⟨Nat.le_of_ble_eq_true rfl, Nat.le_of_ble_eq_true rfl⟩ ⟨Nat.le_of_ble_eq_true rfl, Nat.le_of_ble_eq_true rfl⟩ rfl rfl (Nat.le_of_ble_eq_true rfl) dX5_learn_84 (fun r σ' h => ?_)
          obtain ⟨rfl, rfl⟩ := h
          obtain ⟨hs62, hok⟩ := hok
          refine r_callS_i (pc := 87) (as := [.ref (gAd G _), .int _]) hc (c_X5_at l _ (Or.inl ⟨by decide, rfl⟩) hs62) mS_X5_at kM_X5_124 ⟨Nat.le_of_ble_eq_true rfl, Nat.le_of_ble_eq_true rfl⟩ ⟨Nat.le_of_ble_eq_true rfl, Nat.le_of_ble_eq_true rfl⟩ rfl rfl (Nat.le_of_ble_eq_true rfl) dX5_learn_87 (fun r σ' h => ?_)
          obtain ⟨rfl, rfl⟩ := h
          refine r_iload (pc := 90) hc 0 dX5_learn_90 rfl ?_
          refine r_icmp_eq (pc := 92) (tgt := 98) hc dX5_learn_92 (by decide) (fun c92 => ?_) (fun c92 => ?_)
          · have hok := hok.1 c92
            have hq := o_qp hq c92
            refine r_aload_n (pc := 98) hc 4 dX5_learn_98 rfl rfl ?_
            refine r_getr (pc := 99) (j := 1) hc 0 kk5 (o_lt hc (by decide)) rfl (by decide) kF_X5_12 rfl rfl dX5_learn_99 ?_
            refine r_getrN (pc := 102) (j := 5) hc 10 kk3 (o_lt hc (by decide)) rfl (by decide) kN_X5_171 rfl rfl dX5_learn_102 ?_
            refine r_iload_n (pc := 105) hc 1 dX5_learn_105 rfl rfl ?_
            refine r_iload_n (pc := 106) hc 3 dX5_learn_106 rfl rfl ?_
            obtain ⟨hs63, hok⟩ := hok
            refine r_callS_i (pc := 107) (as := [.int _, .int _]) hc (c_X5_cell l _ hs63) mS_X5_cell kM_X5_120 ⟨Nat.le_of_ble_eq_true rfl, Nat.le_of_ble_eq_true rfl⟩ ⟨Nat.le_of_ble_eq_true rfl, Nat.le_of_ble_eq_true rfl⟩ rfl rfl (Nat.le_of_ble_eq_true rfl) dX5_learn_107 (fun r σ' h => ?_)
            obtain ⟨rfl, rfl⟩ := h
            refine r_iload (pc := 110) hc 0 dX5_learn_110 rfl ?_
            obtain ⟨hs65, hok⟩ := hok
            refine r_callS_v (pc := 112) (as := [.ref (gAd G _), .int _, .int _]) hc (c_X5_put l _ ⟨(by decide), rfl⟩ hs65) mS_X5_put kM_X5_128 ⟨Nat.le_of_ble_eq_true rfl, Nat.le_of_ble_eq_true rfl⟩ ⟨Nat.le_of_ble_eq_true rfl, Nat.le_of_ble_eq_true rfl⟩ rfl rfl (Nat.le_of_ble_eq_true rfl) dX5_learn_112 (fun σ' h => ?_)
            subst h
            refine r_iinc (pc := 115) (q := 1) (v := 2) (lv' := [(3, _), (4, _), (2, _), (1, _), (0, _)]) hc dX5_learn_115 rfl (by decide) (by decide) rfl ?_
            refine r_goto (pc := 118) (tgt := 60) hc dX5_learn_118 (by decide) ?_
            refine r_iload_n (pc := 60) hc 0 dX5_learn_60 rfl rfl ?_
            refine r_iconst (pc := 61) (v := 3) hc dX5_learn_61 rfl ?_
            refine r_icmp_ge (pc := 62) (tgt := 121) hc dX5_learn_62 (by decide) (fun h => absurd h (by decide)) (fun _ => ?_)
            refine r_aload_n (pc := 65) hc 4 dX5_learn_65 rfl rfl ?_
            refine r_getr (pc := 66) (j := 1) hc 0 kk5 (o_lt hc (by decide)) rfl (by decide) kF_X5_12 rfl rfl dX5_learn_66 ?_
            refine r_iload_n (pc := 69) hc 0 dX5_learn_69 rfl rfl ?_
            obtain ⟨hs67, hok⟩ := hok
            refine r_callVN_i (pc := 70) (as := [.int _]) hc (c_X3_excess l _ hs67) kk3 (o_lt hc (by decide)) rfl mV_X3_excess kN_X5_174 ⟨Nat.le_of_ble_eq_true rfl, Nat.le_of_ble_eq_true rfl⟩ ⟨Nat.le_of_ble_eq_true rfl, Nat.le_of_ble_eq_true rfl⟩ rfl rfl (Nat.le_of_ble_eq_true rfl) dX5_learn_70 (fun r σ' h => ?_)
            obtain ⟨rfl, rfl⟩ := h
            refine r_istore (pc := 73) (lv' := [(4, _), (3, _), (2, _), (1, _), (0, _)]) hc dX5_learn_73 (by decide) rfl ?_
            refine r_aload_n (pc := 75) hc 4 dX5_learn_75 rfl rfl ?_
            refine r_getr (pc := 76) (j := 1) hc 0 kk5 (o_lt hc (by decide)) rfl (by decide) kF_X5_12 rfl rfl dX5_learn_76 ?_
            refine r_getrN (pc := 79) (j := 5) hc 10 kk3 (o_lt hc (by decide)) rfl (by decide) kN_X5_171 rfl rfl dX5_learn_79 ?_
            refine r_iload_n (pc := 82) hc 1 dX5_learn_82 rfl rfl ?_
            refine r_iload_n (pc := 83) hc 3 dX5_learn_83 rfl rfl ?_
            obtain ⟨hs68, hok⟩ := hok
            refine r_callS_i (pc := 84) (as := [.int _, .int _]) hc (c_X5_cell l _ hs68) mS_X5_cell kM_X5_120 ⟨Nat.le_of_ble_eq_true rfl, Nat.le_of_ble_eq_true rfl⟩ ⟨Nat.le_of_ble_eq_true rfl, Nat.le_of_ble_eq_true rfl⟩ rfl rfl (Nat.le_of_ble_eq_true rfl) dX5_learn_84 (fun r σ' h => ?_)
            obtain ⟨rfl, rfl⟩ := h
            obtain ⟨hs70, hok⟩ := hok
            refine r_callS_i (pc := 87) (as := [.ref (gAd G _), .int _]) hc (c_X5_at l _ (Or.inl ⟨by decide, rfl⟩) hs70) mS_X5_at kM_X5_124 ⟨Nat.le_of_ble_eq_true rfl, Nat.le_of_ble_eq_true rfl⟩ ⟨Nat.le_of_ble_eq_true rfl, Nat.le_of_ble_eq_true rfl⟩ rfl rfl (Nat.le_of_ble_eq_true rfl) dX5_learn_87 (fun r σ' h => ?_)
            obtain ⟨rfl, rfl⟩ := h
            refine r_iload (pc := 90) hc 0 dX5_learn_90 rfl ?_
            refine r_icmp_eq (pc := 92) (tgt := 98) hc dX5_learn_92 (by decide) (fun c92 => ?_) (fun c92 => ?_)
            · have hok := hok.1 c92
              have hq := o_qp hq c92
              refine r_aload_n (pc := 98) hc 4 dX5_learn_98 rfl rfl ?_
              refine r_getr (pc := 99) (j := 1) hc 0 kk5 (o_lt hc (by decide)) rfl (by decide) kF_X5_12 rfl rfl dX5_learn_99 ?_
              refine r_getrN (pc := 102) (j := 5) hc 10 kk3 (o_lt hc (by decide)) rfl (by decide) kN_X5_171 rfl rfl dX5_learn_102 ?_
              refine r_iload_n (pc := 105) hc 1 dX5_learn_105 rfl rfl ?_
              refine r_iload_n (pc := 106) hc 3 dX5_learn_106 rfl rfl ?_
              obtain ⟨hs71, hok⟩ := hok
              refine r_callS_i (pc := 107) (as := [.int _, .int _]) hc (c_X5_cell l _ hs71) mS_X5_cell kM_X5_120 ⟨Nat.le_of_ble_eq_true rfl, Nat.le_of_ble_eq_true rfl⟩ ⟨Nat.le_of_ble_eq_true rfl, Nat.le_of_ble_eq_true rfl⟩ rfl rfl (Nat.le_of_ble_eq_true rfl) dX5_learn_107 (fun r σ' h => ?_)
              obtain ⟨rfl, rfl⟩ := h
              refine r_iload (pc := 110) hc 0 dX5_learn_110 rfl ?_
              obtain ⟨hs73, hok⟩ := hok
              refine r_callS_v (pc := 112) (as := [.ref (gAd G _), .int _, .int _]) hc (c_X5_put l _ ⟨(by decide), rfl⟩ hs73) mS_X5_put kM_X5_128 ⟨Nat.le_of_ble_eq_true rfl, Nat.le_of_ble_eq_true rfl⟩ ⟨Nat.le_of_ble_eq_true rfl, Nat.le_of_ble_eq_true rfl⟩ rfl rfl (Nat.le_of_ble_eq_true rfl) dX5_learn_112 (fun σ' h => ?_)
              subst h
              refine r_iinc (pc := 115) (q := 1) (v := 3) (lv' := [(3, _), (4, _), (2, _), (1, _), (0, _)]) hc dX5_learn_115 rfl (by decide) (by decide) rfl ?_
              refine r_goto (pc := 118) (tgt := 60) hc dX5_learn_118 (by decide) ?_
              refine r_iload_n (pc := 60) hc 0 dX5_learn_60 rfl rfl ?_
              refine r_iconst (pc := 61) (v := 3) hc dX5_learn_61 rfl ?_
              refine r_icmp_ge (pc := 62) (tgt := 121) hc dX5_learn_62 (by decide) (fun _ => ?_) (fun h => absurd (by decide) h)
              refine r_iload_n (pc := 121) hc 2 dX5_learn_121 rfl rfl ?_
              exact r_iret hc hr rfl dX5_learn_122 (hq (_, _) rfl)
            · have hok := hok.2 c92
              have hq := o_qn hq c92
              refine r_iinc (pc := 95) (q := 2) (v := 2) (lv' := [(2, _), (4, _), (3, _), (1, _), (0, _)]) hc dX5_learn_95 rfl (by decide) (by decide) rfl ?_
              refine r_aload_n (pc := 98) hc 4 dX5_learn_98 rfl rfl ?_
              refine r_getr (pc := 99) (j := 1) hc 0 kk5 (o_lt hc (by decide)) rfl (by decide) kF_X5_12 rfl rfl dX5_learn_99 ?_
              refine r_getrN (pc := 102) (j := 5) hc 10 kk3 (o_lt hc (by decide)) rfl (by decide) kN_X5_171 rfl rfl dX5_learn_102 ?_
              refine r_iload_n (pc := 105) hc 2 dX5_learn_105 rfl rfl ?_
              refine r_iload_n (pc := 106) hc 3 dX5_learn_106 rfl rfl ?_
              obtain ⟨hs75, hok⟩ := hok
              refine r_callS_i (pc := 107) (as := [.int _, .int _]) hc (c_X5_cell l _ hs75) mS_X5_cell kM_X5_120 ⟨Nat.le_of_ble_eq_true rfl, Nat.le_of_ble_eq_true rfl⟩ ⟨Nat.le_of_ble_eq_true rfl, Nat.le_of_ble_eq_true rfl⟩ rfl rfl (Nat.le_of_ble_eq_true rfl) dX5_learn_107 (fun r σ' h => ?_)
              obtain ⟨rfl, rfl⟩ := h
              refine r_iload (pc := 110) hc 1 dX5_learn_110 rfl ?_
              obtain ⟨hs77, hok⟩ := hok
              refine r_callS_v (pc := 112) (as := [.ref (gAd G _), .int _, .int _]) hc (c_X5_put l _ ⟨(by decide), rfl⟩ hs77) mS_X5_put kM_X5_128 ⟨Nat.le_of_ble_eq_true rfl, Nat.le_of_ble_eq_true rfl⟩ ⟨Nat.le_of_ble_eq_true rfl, Nat.le_of_ble_eq_true rfl⟩ rfl rfl (Nat.le_of_ble_eq_true rfl) dX5_learn_112 (fun σ' h => ?_)
              subst h
              refine r_iinc (pc := 115) (q := 2) (v := 3) (lv' := [(3, _), (2, _), (4, _), (1, _), (0, _)]) hc dX5_learn_115 rfl (by decide) (by decide) rfl ?_
              refine r_goto (pc := 118) (tgt := 60) hc dX5_learn_118 (by decide) ?_
              refine r_iload_n (pc := 60) hc 0 dX5_learn_60 rfl rfl ?_
              refine r_iconst (pc := 61) (v := 3) hc dX5_learn_61 rfl ?_
              refine r_icmp_ge (pc := 62) (tgt := 121) hc dX5_learn_62 (by decide) (fun _ => ?_) (fun h => absurd (by decide) h)
              refine r_iload_n (pc := 121) hc 1 dX5_learn_121 rfl rfl ?_
              exact r_iret hc hr rfl dX5_learn_122 (hq (_, _) rfl)
          · have hok := hok.2 c92
            have hq := o_qn hq c92
            refine r_iinc (pc := 95) (q := 2) (v := 2) (lv' := [(2, _), (4, _), (3, _), (1, _), (0, _)]) hc dX5_learn_95 rfl (by decide) (by decide) rfl ?_
            refine r_aload_n (pc := 98) hc 4 dX5_learn_98 rfl rfl ?_
            refine r_getr (pc := 99) (j := 1) hc 0 kk5 (o_lt hc (by decide)) rfl (by decide) kF_X5_12 rfl rfl dX5_learn_99 ?_
            refine r_getrN (pc := 102) (j := 5) hc 10 kk3 (o_lt hc (by decide)) rfl (by decide) kN_X5_171 rfl rfl dX5_learn_102 ?_
            refine r_iload_n (pc := 105) hc 2 dX5_learn_105 rfl rfl ?_
            refine r_iload_n (pc := 106) hc 3 dX5_learn_106 rfl rfl ?_
            obtain ⟨hs79, hok⟩ := hok
            refine r_callS_i (pc := 107) (as := [.int _, .int _]) hc (c_X5_cell l _ hs79) mS_X5_cell kM_X5_120 ⟨Nat.le_of_ble_eq_true rfl, Nat.le_of_ble_eq_true rfl⟩ ⟨Nat.le_of_ble_eq_true rfl, Nat.le_of_ble_eq_true rfl⟩ rfl rfl (Nat.le_of_ble_eq_true rfl) dX5_learn_107 (fun r σ' h => ?_)
            obtain ⟨rfl, rfl⟩ := h
            refine r_iload (pc := 110) hc 1 dX5_learn_110 rfl ?_
            obtain ⟨hs81, hok⟩ := hok
            refine r_callS_v (pc := 112) (as := [.ref (gAd G _), .int _, .int _]) hc (c_X5_put l _ ⟨(by decide), rfl⟩ hs81) mS_X5_put kM_X5_128 ⟨Nat.le_of_ble_eq_true rfl, Nat.le_of_ble_eq_true rfl⟩ ⟨Nat.le_of_ble_eq_true rfl, Nat.le_of_ble_eq_true rfl⟩ rfl rfl (Nat.le_of_ble_eq_true rfl) dX5_learn_112 (fun σ' h => ?_)
            subst h
            refine r_iinc (pc := 115) (q := 2) (v := 2) (lv' := [(3, _), (2, _), (4, _), (1, _), (0, _)]) hc dX5_learn_115 rfl (by decide) (by decide) rfl ?_
            refine r_goto (pc := 118) (tgt := 60) hc dX5_learn_118 (by decide) ?_
            refine r_iload_n (pc := 60) hc 0 dX5_learn_60 rfl rfl ?_
            refine r_iconst (pc := 61) (v := 3) hc dX5_learn_61 rfl ?_
            refine r_icmp_ge (pc := 62) (tgt := 121) hc dX5_learn_62 (by decide) (fun h => absurd h (by decide)) (fun _ => ?_)
            refine r_aload_n (pc := 65) hc 4 dX5_learn_65 rfl rfl ?_
            refine r_getr (pc := 66) (j := 1) hc 0 kk5 (o_lt hc (by decide)) rfl (by decide) kF_X5_12 rfl rfl dX5_learn_66 ?_
            refine r_iload_n (pc := 69) hc 0 dX5_learn_69 rfl rfl ?_
            obtain ⟨hs83, hok⟩ := hok
            refine r_callVN_i (pc := 70) (as := [.int _]) hc (c_X3_excess l _ hs83) kk3 (o_lt hc (by decide)) rfl mV_X3_excess kN_X5_174 ⟨Nat.le_of_ble_eq_true rfl, Nat.le_of_ble_eq_true rfl⟩ ⟨Nat.le_of_ble_eq_true rfl, Nat.le_of_ble_eq_true rfl⟩ rfl rfl (Nat.le_of_ble_eq_true rfl) dX5_learn_70 (fun r σ' h => ?_)
            obtain ⟨rfl, rfl⟩ := h
            refine r_istore (pc := 73) (lv' := [(4, _), (3, _), (2, _), (1, _), (0, _)]) hc dX5_learn_73 (by decide) rfl ?_
            refine r_aload_n (pc := 75) hc 4 dX5_learn_75 rfl rfl ?_
            refine r_getr (pc := 76) (j := 1) hc 0 kk5 (o_lt hc (by decide)) rfl (by decide) kF_X5_12 rfl rfl dX5_learn_76 ?_
            refine r_getrN (pc := 79) (j := 5) hc 10 kk3 (o_lt hc (by decide)) rfl (by decide) kN_X5_171 rfl rfl dX5_learn_79 ?_
            refine r_iload_n (pc := 82) hc 1 dX5_learn_82 rfl rfl ?_
            refine r_iload_n (pc := 83) hc 3 dX5_learn_83 rfl rfl ?_
            obtain ⟨hs84, hok⟩ := hok
            refine r_callS_i (pc := 84) (as := [.int _, .int _]) hc (c_X5_cell l _ hs84) mS_X5_cell kM_X5_120 ⟨Nat.le_of_ble_eq_true rfl, Nat.le_of_ble_eq_true rfl⟩ ⟨Nat.le_of_ble_eq_true rfl, Nat.le_of_ble_eq_true rfl⟩ rfl rfl (Nat.le_of_ble_eq_true rfl) dX5_learn_84 (fun r σ' h => ?_)
            obtain ⟨rfl, rfl⟩ := h
            obtain ⟨hs86, hok⟩ := hok
            refine r_callS_i (pc := 87) (as := [.ref (gAd G _), .int _]) hc (c_X5_at l _ (Or.inl ⟨by decide, rfl⟩) hs86) mS_X5_at kM_X5_124 ⟨Nat.le_of_ble_eq_true rfl, Nat.le_of_ble_eq_true rfl⟩ ⟨Nat.le_of_ble_eq_true rfl, Nat.le_of_ble_eq_true rfl⟩ rfl rfl (Nat.le_of_ble_eq_true rfl) dX5_learn_87 (fun r σ' h => ?_)
            obtain ⟨rfl, rfl⟩ := h
            refine r_iload (pc := 90) hc 0 dX5_learn_90 rfl ?_
            refine r_icmp_eq (pc := 92) (tgt := 98) hc dX5_learn_92 (by decide) (fun c92 => ?_) (fun c92 => ?_)
            · have hok := hok.1 c92
              have hq := o_qp hq c92
              refine r_aload_n (pc := 98) hc 4 dX5_learn_98 rfl rfl ?_
              refine r_getr (pc := 99) (j := 1) hc 0 kk5 (o_lt hc (by decide)) rfl (by decide) kF_X5_12 rfl rfl dX5_learn_99 ?_
              refine r_getrN (pc := 102) (j := 5) hc 10 kk3 (o_lt hc (by decide)) rfl (by decide) kN_X5_171 rfl rfl dX5_learn_102 ?_
              refine r_iload_n (pc := 105) hc 1 dX5_learn_105 rfl rfl ?_
              refine r_iload_n (pc := 106) hc 3 dX5_learn_106 rfl rfl ?_
              obtain ⟨hs87, hok⟩ := hok
              refine r_callS_i (pc := 107) (as := [.int _, .int _]) hc (c_X5_cell l _ hs87) mS_X5_cell kM_X5_120 ⟨Nat.le_of_ble_eq_true rfl, Nat.le_of_ble_eq_true rfl⟩ ⟨Nat.le_of_ble_eq_true rfl, Nat.le_of_ble_eq_true rfl⟩ rfl rfl (Nat.le_of_ble_eq_true rfl) dX5_learn_107 (fun r σ' h => ?_)
              obtain ⟨rfl, rfl⟩ := h
              refine r_iload (pc := 110) hc 0 dX5_learn_110 rfl ?_
              obtain ⟨hs89, hok⟩ := hok
              refine r_callS_v (pc := 112) (as := [.ref (gAd G _), .int _, .int _]) hc (c_X5_put l _ ⟨(by decide), rfl⟩ hs89) mS_X5_put kM_X5_128 ⟨Nat.le_of_ble_eq_true rfl, Nat.le_of_ble_eq_true rfl⟩ ⟨Nat.le_of_ble_eq_true rfl, Nat.le_of_ble_eq_true rfl⟩ rfl rfl (Nat.le_of_ble_eq_true rfl) dX5_learn_112 (fun σ' h => ?_)
              subst h
              refine r_iinc (pc := 115) (q := 1) (v := 3) (lv' := [(3, _), (4, _), (2, _), (1, _), (0, _)]) hc dX5_learn_115 rfl (by decide) (by decide) rfl ?_
              refine r_goto (pc := 118) (tgt := 60) hc dX5_learn_118 (by decide) ?_
              refine r_iload_n (pc := 60) hc 0 dX5_learn_60 rfl rfl ?_
              refine r_iconst (pc := 61) (v := 3) hc dX5_learn_61 rfl ?_
              refine r_icmp_ge (pc := 62) (tgt := 121) hc dX5_learn_62 (by decide) (fun _ => ?_) (fun h => absurd (by decide) h)
              refine r_iload_n (pc := 121) hc 2 dX5_learn_121 rfl rfl ?_
              exact r_iret hc hr rfl dX5_learn_122 (hq (_, _) rfl)
            · have hok := hok.2 c92
              have hq := o_qn hq c92
              refine r_iinc (pc := 95) (q := 2) (v := 3) (lv' := [(2, _), (4, _), (3, _), (1, _), (0, _)]) hc dX5_learn_95 rfl (by decide) (by decide) rfl ?_
              refine r_aload_n (pc := 98) hc 4 dX5_learn_98 rfl rfl ?_
              refine r_getr (pc := 99) (j := 1) hc 0 kk5 (o_lt hc (by decide)) rfl (by decide) kF_X5_12 rfl rfl dX5_learn_99 ?_
              refine r_getrN (pc := 102) (j := 5) hc 10 kk3 (o_lt hc (by decide)) rfl (by decide) kN_X5_171 rfl rfl dX5_learn_102 ?_
              refine r_iload_n (pc := 105) hc 2 dX5_learn_105 rfl rfl ?_
              refine r_iload_n (pc := 106) hc 3 dX5_learn_106 rfl rfl ?_
              obtain ⟨hs91, hok⟩ := hok
              refine r_callS_i (pc := 107) (as := [.int _, .int _]) hc (c_X5_cell l _ hs91) mS_X5_cell kM_X5_120 ⟨Nat.le_of_ble_eq_true rfl, Nat.le_of_ble_eq_true rfl⟩ ⟨Nat.le_of_ble_eq_true rfl, Nat.le_of_ble_eq_true rfl⟩ rfl rfl (Nat.le_of_ble_eq_true rfl) dX5_learn_107 (fun r σ' h => ?_)
              obtain ⟨rfl, rfl⟩ := h
              refine r_iload (pc := 110) hc 1 dX5_learn_110 rfl ?_
              obtain ⟨hs93, hok⟩ := hok
              refine r_callS_v (pc := 112) (as := [.ref (gAd G _), .int _, .int _]) hc (c_X5_put l _ ⟨(by decide), rfl⟩ hs93) mS_X5_put kM_X5_128 ⟨Nat.le_of_ble_eq_true rfl, Nat.le_of_ble_eq_true rfl⟩ ⟨Nat.le_of_ble_eq_true rfl, Nat.le_of_ble_eq_true rfl⟩ rfl rfl (Nat.le_of_ble_eq_true rfl) dX5_learn_112 (fun σ' h => ?_)
              subst h
              refine r_iinc (pc := 115) (q := 2) (v := 3) (lv' := [(3, _), (2, _), (4, _), (1, _), (0, _)]) hc dX5_learn_115 rfl (by decide) (by decide) rfl ?_
              refine r_goto (pc := 118) (tgt := 60) hc dX5_learn_118 (by decide) ?_
              refine r_iload_n (pc := 60) hc 0 dX5_learn_60 rfl rfl ?_
              refine r_iconst (pc := 61) (v := 3) hc dX5_learn_61 rfl ?_
              refine r_icmp_ge (pc := 62) (tgt := 121) hc dX5_learn_62 (by decide) (fun _ => ?_) (fun h => absurd (by decide) h)
              refine r_iload_n (pc := 121) hc 1 dX5_learn_121 rfl rfl ?_
              exact r_iret hc hr rfl dX5_learn_122 (hq (_, _) rfl)
      · have hok := hok.2 c22
        have hq := o_qn hq c22
        refine r_bipush (pc := 25) (v := (-2)) hc dX5_learn_25 (by decide) ?_
        exact r_iret hc hr rfl dX5_learn_27 (hq (_, _) rfl)
    · have hok := hok.2 c22
      have hq := o_qn hq c22
      refine r_bipush (pc := 25) (v := (-2)) hc dX5_learn_25 (by decide) ?_
      exact r_iret hc hr rfl dX5_learn_27 (hq (_, _) rfl)
  · have hok := hok.2 c22
    have hq := o_qn hq c22
    refine r_bipush (pc := 25) (v := (-2)) hc dX5_learn_25 (by decide) ?_
    exact r_iret hc hr rfl dX5_learn_27 (hq (_, _) rfl)
noncomputable def f_X5_look_114  (y0 : Int32) (σ : Sg) : Int32 × Sg :=
  ((f_X5_toNumber y0 σ), σ)
def ok_X5_look_114  (y0 : Int32) (σ : Sg) : Prop :=
  (ok_X5_toNumber y0 σ) ∧ (True)
noncomputable def f_X5_look (p1 : Int32) (σ : Sg) : Int32 × Sg :=
  o_ite ((f_X5_isOutside p1 0 4 σ) = 0) (
    let σ4 := f_X1_search (f_X3_angle σ) σ
    o_ite (p1 = 0) (
      ((σ4 28 1), σ4)) (
      o_ite (p1 = 1) (
        ((σ4 28 2), σ4)) (
        o_ite (p1 = 2) (
          ((σ4 28 0), σ4)) (
          o_ite (p1 = 3) (
            ((σ4 28 3), σ4)) (
            o_ite ((σ4 28 1) = (f_X3_angle σ4)) (
              f_X5_look_114 1 σ4) (
              f_X5_look_114 0 σ4)))))) (
    ((-1), σ))
def ok_X5_look (p1 : Int32) (σ : Sg) : Prop :=
  (ok_X5_isOutside p1 0 4 σ) ∧ ((((f_X5_isOutside p1 0 4 σ) = 0) →
    (ok_X3_angle σ) ∧ ((ok_X1_search (f_X3_angle σ) σ) ∧ (let σ4 := f_X1_search (f_X3_angle σ) σ
    ((p1 = 0) →
      True) ∧ (¬ (p1 = 0) →
      ((p1 = 1) →
        True) ∧ (¬ (p1 = 1) →
        ((p1 = 2) →
          True) ∧ (¬ (p1 = 2) →
          ((p1 = 3) →
            True) ∧ (¬ (p1 = 3) →
            (ok_X3_angle σ4) ∧ ((((σ4 28 1) = (f_X3_angle σ4)) →
              ok_X5_look_114 1 σ4) ∧ (¬ ((σ4 28 1) = (f_X3_angle σ4)) →
              ok_X5_look_114 0 σ4))))))))) ∧ (¬ ((f_X5_isOutside p1 0 4 σ) = 0) →
    True))
set_option maxHeartbeats 4000000 in
set_option maxRecDepth 100000 in
theorem t_X5_look_114 {p : Program} {l : Launch} {e : Env} {s : State} {m : MethodId} {args : Array Value} {below : List Frame} {meth : Method} {c : Code} {G : Gt} {post : Int32 → Sg → Prop}   (hc : o_Cx p s m args meth c G cX5_look yX5_look.cls 2) (hr : meth.sig.returnType = (some .int)) {y0 : Int32} {σ : Sg} (hok : ok_X5_look_114  y0 σ) (hq : ∀ q : Int32 × Sg, q = f_X5_look_114  y0 σ → post q.1 q.2) : o_V p l e { frames := 6, cells := 0, slots := 0, locals := 145 } s m args below meth c (MQ below (va_Qi post (fun σ' t => o_W G σ' t.heap) (o_A G)) args s 0 0 (o_A G)) G 0 0 2 σ 114 [] [.int y0] := by
  obtain ⟨hs1, hok⟩ := hok
  refine r_callS_i (pc := 114) (as := [.int _]) hc (c_X5_toNumber l _ hs1) mS_X5_toNumber kM_X5_71 ⟨Nat.le_of_ble_eq_true rfl, Nat.le_of_ble_eq_true rfl⟩ ⟨Nat.le_of_ble_eq_true rfl, Nat.le_of_ble_eq_true rfl⟩ rfl rfl (Nat.le_of_ble_eq_true rfl) dX5_look_114 (fun r σ' h => ?_)
  obtain ⟨rfl, rfl⟩ := h
  exact r_iret hc hr rfl dX5_look_117 (hq (_, _) rfl)
set_option maxHeartbeats 4000000 in
set_option maxRecDepth 100000 in
theorem c_X5_look (l : Launch) (G : Gt) {p1 : Int32}  {σ : Sg} (hok : ok_X5_look p1 σ) : o_Ci l G yX5_look cX5_look 2 (some .int) 6 145 [.ref (gAd G 0), .int p1] σ (fun r σ' => r = (f_X5_look p1 σ).1 ∧ σ' = (f_X5_look p1 σ).2) := by
  refine o_Ci.of (by decide +kernel) (Nat.le_of_ble_eq_true rfl) ?_
  intro p e s m args below meth c hc hr
  have hq : ∀ q : Int32 × Sg, q = f_X5_look p1 σ → (fun r σ' => r = (f_X5_look p1 σ).1 ∧ σ' = (f_X5_look p1 σ).2) q.1 q.2 := fun q h => ⟨congrArg Prod.fst h, congrArg Prod.snd h⟩
  refine r_iload_n (pc := 0) hc 1 dX5_look_0 rfl rfl ?_
  refine r_iconst (pc := 1) (v := 0) hc dX5_look_1 rfl ?_
  refine r_iconst (pc := 2) (v := 4) hc dX5_look_2 rfl ?_
  obtain ⟨hs1, hok⟩ := hok
  refine r_callS_i (pc := 3) (as := [.int _, .int _, .int _]) hc (c_X5_isOutside l _ hs1) mS_X5_isOutside kM_X5_44 ⟨Nat.le_of_ble_eq_true rfl, Nat.le_of_ble_eq_true rfl⟩ ⟨Nat.le_of_ble_eq_true rfl, Nat.le_of_ble_eq_true rfl⟩ rfl rfl (Nat.le_of_ble_eq_true rfl) dX5_look_3 (fun r σ' h => ?_)
  obtain ⟨rfl, rfl⟩ := h
  refine r_if_eq (pc := 6) (tgt := 11) hc dX5_look_6 (by decide) (fun c6 => ?_) (fun c6 => ?_)
  · have hok := hok.1 c6
    have hq := o_qp hq c6
    refine r_aload_n (pc := 11) hc 0 dX5_look_11 rfl rfl ?_
    refine r_getr (pc := 12) (j := 28) hc 2 kk5 (o_lt hc (by decide)) rfl (by decide) kF_X5_26 rfl rfl dX5_look_12 ?_
    refine r_aload_n (pc := 15) hc 0 dX5_look_15 rfl rfl ?_
    refine r_getr (pc := 16) (j := 1) hc 0 kk5 (o_lt hc (by decide)) rfl (by decide) kF_X5_12 rfl rfl dX5_look_16 ?_
    refine r_aload_n (pc := 19) hc 0 dX5_look_19 rfl rfl ?_
    refine r_getr (pc := 20) (j := 1) hc 0 kk5 (o_lt hc (by decide)) rfl (by decide) kF_X5_12 rfl rfl dX5_look_20 ?_
    obtain ⟨hs2, hok⟩ := hok
    refine r_callVN_i (pc := 23) (as := []) hc (c_X3_angle l _ hs2) kk3 (o_lt hc (by decide)) rfl mV_X3_angle kN_X5_81 ⟨Nat.le_of_ble_eq_true rfl, Nat.le_of_ble_eq_true rfl⟩ ⟨Nat.le_of_ble_eq_true rfl, Nat.le_of_ble_eq_true rfl⟩ rfl rfl (Nat.le_of_ble_eq_true rfl) dX5_look_23 (fun r σ' h => ?_)
    obtain ⟨rfl, rfl⟩ := h
    obtain ⟨hs3, hok⟩ := hok
    refine r_callVN_v (pc := 26) (as := [.ref (gAd G _), .int _]) hc (c_X1_search l _ hs3) kk1 (o_lt hc (by decide)) rfl mV_X1_search kN_X5_180 ⟨Nat.le_of_ble_eq_true rfl, Nat.le_of_ble_eq_true rfl⟩ ⟨Nat.le_of_ble_eq_true rfl, Nat.le_of_ble_eq_true rfl⟩ rfl rfl (Nat.le_of_ble_eq_true rfl) dX5_look_26 (fun σ' h => ?_)
    subst h
    refine r_iload_n (pc := 29) hc 1 dX5_look_29 rfl rfl ?_
    refine o_cs (p1 = 0) (fun s30_0 => ?_) (fun s30_0 => ?_)
    · have hok := hok.1 s30_0
      have hq := o_qp hq s30_0
      refine r_tabIn (pc := 30) (tgt := 60) (k := 0) (off := 30) hc dX5_look_30 s30_0 (by decide) (by decide) (by decide) (by decide) ?_
      refine r_aload_n (pc := 60) hc 0 dX5_look_60 rfl rfl ?_
      refine r_getr (pc := 61) (j := 28) hc 2 kk5 (o_lt hc (by decide)) rfl (by decide) kF_X5_26 rfl rfl dX5_look_61 ?_
      refine r_getiN (pc := 64) hc 1 kk1 (o_lt hc (by decide)) rfl (by decide) kN_X5_184 rfl rfl dX5_look_64 ?_
      exact r_iret hc hr rfl dX5_look_67 (hq (_, _) rfl)
    have hok := hok.2 s30_0
    have hq := o_qn hq s30_0
    refine o_cs (p1 = 1) (fun s30_1 => ?_) (fun s30_1 => ?_)
    · have hok := hok.1 s30_1
      have hq := o_qp hq s30_1
      refine r_tabIn (pc := 30) (tgt := 68) (k := 1) (off := 38) hc dX5_look_30 s30_1 (by decide) (by decide) (by decide) (by decide) ?_
      refine r_aload_n (pc := 68) hc 0 dX5_look_68 rfl rfl ?_
      refine r_getr (pc := 69) (j := 28) hc 2 kk5 (o_lt hc (by decide)) rfl (by decide) kF_X5_26 rfl rfl dX5_look_69 ?_
      refine r_getiN (pc := 72) hc 2 kk1 (o_lt hc (by decide)) rfl (by decide) kN_X5_187 rfl rfl dX5_look_72 ?_
      exact r_iret hc hr rfl dX5_look_75 (hq (_, _) rfl)
    have hok := hok.2 s30_1
    have hq := o_qn hq s30_1
    refine o_cs (p1 = 2) (fun s30_2 => ?_) (fun s30_2 => ?_)
    · have hok := hok.1 s30_2
      have hq := o_qp hq s30_2
      refine r_tabIn (pc := 30) (tgt := 76) (k := 2) (off := 46) hc dX5_look_30 s30_2 (by decide) (by decide) (by decide) (by decide) ?_
      refine r_aload_n (pc := 76) hc 0 dX5_look_76 rfl rfl ?_
      refine r_getr (pc := 77) (j := 28) hc 2 kk5 (o_lt hc (by decide)) rfl (by decide) kF_X5_26 rfl rfl dX5_look_77 ?_
      refine r_getiN (pc := 80) hc 0 kk1 (o_lt hc (by decide)) rfl (by decide) kN_X5_190 rfl rfl dX5_look_80 ?_
      exact r_iret hc hr rfl dX5_look_83 (hq (_, _) rfl)
    have hok := hok.2 s30_2
    have hq := o_qn hq s30_2
    refine o_cs (p1 = 3) (fun s30_3 => ?_) (fun s30_3 => ?_)
    · have hok := hok.1 s30_3
      have hq := o_qp hq s30_3
      refine r_tabIn (pc := 30) (tgt := 84) (k := 3) (off := 54) hc dX5_look_30 s30_3 (by decide) (by decide) (by decide) (by decide) ?_
      refine r_aload_n (pc := 84) hc 0 dX5_look_84 rfl rfl ?_
      refine r_getr (pc := 85) (j := 28) hc 2 kk5 (o_lt hc (by decide)) rfl (by decide) kF_X5_26 rfl rfl dX5_look_85 ?_
      refine r_getiN (pc := 88) hc 3 kk1 (o_lt hc (by decide)) rfl (by decide) kN_X5_193 rfl rfl dX5_look_88 ?_
      exact r_iret hc hr rfl dX5_look_91 (hq (_, _) rfl)
    have hok := hok.2 s30_3
    have hq := o_qn hq s30_3
    have e30_0 := lv_neT s30_0 (show (0 : Int32).toInt = 0 by decide)
    have e30_1 := lv_neT s30_1 (show (1 : Int32).toInt = 1 by decide)
    have e30_2 := lv_neT s30_2 (show (2 : Int32).toInt = 2 by decide)
    have e30_3 := lv_neT s30_3 (show (3 : Int32).toInt = 3 by decide)
    refine r_tabOut (pc := 30) (tgt := 92) hc dX5_look_30 (by omega) (by decide) ?_
    refine r_aload_n (pc := 92) hc 0 dX5_look_92 rfl rfl ?_
    refine r_getr (pc := 93) (j := 28) hc 2 kk5 (o_lt hc (by decide)) rfl (by decide) kF_X5_26 rfl rfl dX5_look_93 ?_
    refine r_getiN (pc := 96) hc 1 kk1 (o_lt hc (by decide)) rfl (by decide) kN_X5_184 rfl rfl dX5_look_96 ?_
    refine r_aload_n (pc := 99) hc 0 dX5_look_99 rfl rfl ?_
    refine r_getr (pc := 100) (j := 1) hc 0 kk5 (o_lt hc (by decide)) rfl (by decide) kF_X5_12 rfl rfl dX5_look_100 ?_
    obtain ⟨hs5, hok⟩ := hok
    refine r_callVN_i (pc := 103) (as := []) hc (c_X3_angle l _ hs5) kk3 (o_lt hc (by decide)) rfl mV_X3_angle kN_X5_81 ⟨Nat.le_of_ble_eq_true rfl, Nat.le_of_ble_eq_true rfl⟩ ⟨Nat.le_of_ble_eq_true rfl, Nat.le_of_ble_eq_true rfl⟩ rfl rfl (Nat.le_of_ble_eq_true rfl) dX5_look_103 (fun r σ' h => ?_)
    obtain ⟨rfl, rfl⟩ := h
    refine r_icmp_ne (pc := 106) (tgt := 113) hc dX5_look_106 (by decide) (fun c106 => ?_) (fun c106 => ?_)
    · have hok := hok.2 c106
      have hq := o_qn hq c106
      refine r_iconst (pc := 113) (v := 0) hc dX5_look_113 rfl ?_
      exact o_V.sub (t_X5_look_114  hc hr hok hq) [] rfl
    · have hok := hok.1 c106
      have hq := o_qp hq c106
      refine r_iconst (pc := 109) (v := 1) hc dX5_look_109 rfl ?_
      refine r_goto (pc := 110) (tgt := 114) hc dX5_look_110 (by decide) ?_
      exact o_V.sub (t_X5_look_114  hc hr hok hq) [] rfl
  · have hok := hok.2 c6
    have hq := o_qn hq c6
    refine r_iconst (pc := 9) (v := (-1)) hc dX5_look_9 rfl ?_
    exact r_iret hc hr rfl dX5_look_10 (hq (_, _) rfl)
noncomputable def f_X5_reason  (σ : Sg) : Int32 × Sg :=
  o_ite ((σ 1 2) = 0) (
    ((-2), σ)) (
    let σ3 := f_X1_search (f_X3_angle σ) σ
    let σ5 := f_X4_judge σ3
    ((σ5 29 0), σ5))
def ok_X5_reason  (σ : Sg) : Prop :=
  (((σ 1 2) = 0) →
    True) ∧ (¬ ((σ 1 2) = 0) →
    (ok_X3_angle σ) ∧ ((ok_X1_search (f_X3_angle σ) σ) ∧ (let σ3 := f_X1_search (f_X3_angle σ) σ
    (ok_X4_judge σ3) ∧ (let σ5 := f_X4_judge σ3
    True))))
set_option maxHeartbeats 4000000 in
set_option maxRecDepth 100000 in
theorem c_X5_reason (l : Launch) (G : Gt)   {σ : Sg} (hok : ok_X5_reason  σ) : o_Ci l G yX5_reason cX5_reason 1 (some .int) 6 145 [.ref (gAd G 0)] σ (fun r σ' => r = (f_X5_reason  σ).1 ∧ σ' = (f_X5_reason  σ).2) := by
  refine o_Ci.of (by decide +kernel) (Nat.le_of_ble_eq_true rfl) ?_
  intro p e s m args below meth c hc hr
  have hq : ∀ q : Int32 × Sg, q = f_X5_reason  σ → (fun r σ' => r = (f_X5_reason  σ).1 ∧ σ' = (f_X5_reason  σ).2) q.1 q.2 := fun q h => ⟨congrArg Prod.fst h, congrArg Prod.snd h⟩
  refine r_aload_n (pc := 0) hc 0 dX5_reason_0 rfl rfl ?_
  refine r_getr (pc := 1) (j := 1) hc 0 kk5 (o_lt hc (by decide)) rfl (by decide) kF_X5_12 rfl rfl dX5_reason_1 ?_
  refine r_getiN (pc := 4) hc 2 kk3 (o_lt hc (by decide)) rfl (by decide) kN_X5_67 rfl rfl dX5_reason_4 ?_
  refine r_if_ne (pc := 7) (tgt := 13) hc dX5_reason_7 (by decide) (fun c7 => ?_) (fun c7 => ?_)
  · have hok := hok.2 c7
    have hq := o_qn hq c7
    refine r_aload_n (pc := 13) hc 0 dX5_reason_13 rfl rfl ?_
    refine r_getr (pc := 14) (j := 28) hc 2 kk5 (o_lt hc (by decide)) rfl (by decide) kF_X5_26 rfl rfl dX5_reason_14 ?_
    refine r_aload_n (pc := 17) hc 0 dX5_reason_17 rfl rfl ?_
    refine r_getr (pc := 18) (j := 1) hc 0 kk5 (o_lt hc (by decide)) rfl (by decide) kF_X5_12 rfl rfl dX5_reason_18 ?_
    refine r_aload_n (pc := 21) hc 0 dX5_reason_21 rfl rfl ?_
    refine r_getr (pc := 22) (j := 1) hc 0 kk5 (o_lt hc (by decide)) rfl (by decide) kF_X5_12 rfl rfl dX5_reason_22 ?_
    obtain ⟨hs1, hok⟩ := hok
    refine r_callVN_i (pc := 25) (as := []) hc (c_X3_angle l _ hs1) kk3 (o_lt hc (by decide)) rfl mV_X3_angle kN_X5_81 ⟨Nat.le_of_ble_eq_true rfl, Nat.le_of_ble_eq_true rfl⟩ ⟨Nat.le_of_ble_eq_true rfl, Nat.le_of_ble_eq_true rfl⟩ rfl rfl (Nat.le_of_ble_eq_true rfl) dX5_reason_25 (fun r σ' h => ?_)
    obtain ⟨rfl, rfl⟩ := h
    obtain ⟨hs2, hok⟩ := hok
    refine r_callVN_v (pc := 28) (as := [.ref (gAd G _), .int _]) hc (c_X1_search l _ hs2) kk1 (o_lt hc (by decide)) rfl mV_X1_search kN_X5_180 ⟨Nat.le_of_ble_eq_true rfl, Nat.le_of_ble_eq_true rfl⟩ ⟨Nat.le_of_ble_eq_true rfl, Nat.le_of_ble_eq_true rfl⟩ rfl rfl (Nat.le_of_ble_eq_true rfl) dX5_reason_28 (fun σ' h => ?_)
    subst h
    refine r_aload_n (pc := 31) hc 0 dX5_reason_31 rfl rfl ?_
    refine r_getr (pc := 32) (j := 29) hc 3 kk5 (o_lt hc (by decide)) rfl (by decide) kF_X5_33 rfl rfl dX5_reason_32 ?_
    refine r_aload_n (pc := 35) hc 0 dX5_reason_35 rfl rfl ?_
    refine r_getr (pc := 36) (j := 1) hc 0 kk5 (o_lt hc (by decide)) rfl (by decide) kF_X5_12 rfl rfl dX5_reason_36 ?_
    refine r_aload_n (pc := 39) hc 0 dX5_reason_39 rfl rfl ?_
    refine r_getr (pc := 40) (j := 28) hc 2 kk5 (o_lt hc (by decide)) rfl (by decide) kF_X5_26 rfl rfl dX5_reason_40 ?_
    obtain ⟨hs4, hok⟩ := hok
    refine r_callVN_v (pc := 43) (as := [.ref (gAd G _), .ref (gAd G _)]) hc (c_X4_judge l _ hs4) kk4 (o_lt hc (by decide)) rfl mV_X4_judge kN_X5_202 ⟨Nat.le_of_ble_eq_true rfl, Nat.le_of_ble_eq_true rfl⟩ ⟨Nat.le_of_ble_eq_true rfl, Nat.le_of_ble_eq_true rfl⟩ rfl rfl (Nat.le_of_ble_eq_true rfl) dX5_reason_43 (fun σ' h => ?_)
    subst h
    refine r_aload_n (pc := 46) hc 0 dX5_reason_46 rfl rfl ?_
    refine r_getr (pc := 47) (j := 29) hc 3 kk5 (o_lt hc (by decide)) rfl (by decide) kF_X5_33 rfl rfl dX5_reason_47 ?_
    refine r_getiN (pc := 50) hc 0 kk4 (o_lt hc (by decide)) rfl (by decide) kN_X5_208 rfl rfl dX5_reason_50 ?_
    exact r_iret hc hr rfl dX5_reason_53 (hq (_, _) rfl)
  · have hok := hok.1 c7
    have hq := o_qp hq c7
    refine r_bipush (pc := 10) (v := (-2)) hc dX5_reason_10 (by decide) ?_
    exact r_iret hc hr rfl dX5_reason_12 (hq (_, _) rfl)
noncomputable def f_X5_sample  (σ : Sg) : Int32 × Sg :=
  o_ite ((σ 1 2) = 0) (
    ((-2), σ)) (
    let σ2 := f_X2_keep σ
    let σ5 := f_X1_search (f_X3_angle σ2) σ2
    let σ7 := f_X4_judge σ5
    let σ8 := pu σ7 1 1 (σ7 29 1)
    let σ9 := pu σ8 1 6 (σ8 29 2)
    o_ite ((σ9 29 0) = 0) (
      let σ10 := pu σ9 1 5 (σ9 29 3)
      ((σ10 1 5), σ10)) (
      ((100000 + (σ9 29 0)), σ9)))
def ok_X5_sample  (σ : Sg) : Prop :=
  (((σ 1 2) = 0) →
    True) ∧ (¬ ((σ 1 2) = 0) →
    (ok_X2_keep σ) ∧ (let σ2 := f_X2_keep σ
    (ok_X3_angle σ2) ∧ ((ok_X1_search (f_X3_angle σ2) σ2) ∧ (let σ5 := f_X1_search (f_X3_angle σ2) σ2
    (ok_X4_judge σ5) ∧ (let σ7 := f_X4_judge σ5
    let σ8 := pu σ7 1 1 (σ7 29 1)
    let σ9 := pu σ8 1 6 (σ8 29 2)
    (((σ9 29 0) = 0) →
      let σ10 := pu σ9 1 5 (σ9 29 3)
      True) ∧ (¬ ((σ9 29 0) = 0) →
      True))))))
set_option maxHeartbeats 4000000 in
set_option maxRecDepth 100000 in
theorem c_X5_sample (l : Launch) (G : Gt)   {σ : Sg} (hok : ok_X5_sample  σ) : o_Ci l G yX5_sample cX5_sample 1 (some .int) 6 145 [.ref (gAd G 0)] σ (fun r σ' => r = (f_X5_sample  σ).1 ∧ σ' = (f_X5_sample  σ).2) := by
  refine o_Ci.of (by decide +kernel) (Nat.le_of_ble_eq_true rfl) ?_
  intro p e s m args below meth c hc hr
  have hq : ∀ q : Int32 × Sg, q = f_X5_sample  σ → (fun r σ' => r = (f_X5_sample  σ).1 ∧ σ' = (f_X5_sample  σ).2) q.1 q.2 := fun q h => ⟨congrArg Prod.fst h, congrArg Prod.snd h⟩
  refine r_aload_n (pc := 0) hc 0 dX5_sample_0 rfl rfl ?_
  refine r_getr (pc := 1) (j := 1) hc 0 kk5 (o_lt hc (by decide)) rfl (by decide) kF_X5_12 rfl rfl dX5_sample_1 ?_
  refine r_getiN (pc := 4) hc 2 kk3 (o_lt hc (by decide)) rfl (by decide) kN_X5_67 rfl rfl dX5_sample_4 ?_
  refine r_if_ne (pc := 7) (tgt := 13) hc dX5_sample_7 (by decide) (fun c7 => ?_) (fun c7 => ?_)
  · have hok := hok.2 c7
    have hq := o_qn hq c7
    refine r_aload_n (pc := 13) hc 0 dX5_sample_13 rfl rfl ?_
    refine r_getr (pc := 14) (j := 6) hc 1 kk5 (o_lt hc (by decide)) rfl (by decide) kF_X5_19 rfl rfl dX5_sample_14 ?_
    refine r_aload_n (pc := 17) hc 0 dX5_sample_17 rfl rfl ?_
    refine r_getr (pc := 18) (j := 1) hc 0 kk5 (o_lt hc (by decide)) rfl (by decide) kF_X5_12 rfl rfl dX5_sample_18 ?_
    obtain ⟨hs1, hok⟩ := hok
    refine r_callVN_v (pc := 21) (as := [.ref (gAd G _)]) hc (c_X2_keep l _ hs1) kk2 (o_lt hc (by decide)) rfl mV_X2_keep kN_X5_53 ⟨Nat.le_of_ble_eq_true rfl, Nat.le_of_ble_eq_true rfl⟩ ⟨Nat.le_of_ble_eq_true rfl, Nat.le_of_ble_eq_true rfl⟩ rfl rfl (Nat.le_of_ble_eq_true rfl) dX5_sample_21 (fun σ' h => ?_)
    subst h
    refine r_aload_n (pc := 24) hc 0 dX5_sample_24 rfl rfl ?_
    refine r_getr (pc := 25) (j := 28) hc 2 kk5 (o_lt hc (by decide)) rfl (by decide) kF_X5_26 rfl rfl dX5_sample_25 ?_
    refine r_aload_n (pc := 28) hc 0 dX5_sample_28 rfl rfl ?_
    refine r_getr (pc := 29) (j := 1) hc 0 kk5 (o_lt hc (by decide)) rfl (by decide) kF_X5_12 rfl rfl dX5_sample_29 ?_
    refine r_aload_n (pc := 32) hc 0 dX5_sample_32 rfl rfl ?_
    refine r_getr (pc := 33) (j := 1) hc 0 kk5 (o_lt hc (by decide)) rfl (by decide) kF_X5_12 rfl rfl dX5_sample_33 ?_
    obtain ⟨hs3, hok⟩ := hok
    refine r_callVN_i (pc := 36) (as := []) hc (c_X3_angle l _ hs3) kk3 (o_lt hc (by decide)) rfl mV_X3_angle kN_X5_81 ⟨Nat.le_of_ble_eq_true rfl, Nat.le_of_ble_eq_true rfl⟩ ⟨Nat.le_of_ble_eq_true rfl, Nat.le_of_ble_eq_true rfl⟩ rfl rfl (Nat.le_of_ble_eq_true rfl) dX5_sample_36 (fun r σ' h => ?_)
    obtain ⟨rfl, rfl⟩ := h
    obtain ⟨hs4, hok⟩ := hok
    refine r_callVN_v (pc := 39) (as := [.ref (gAd G _), .int _]) hc (c_X1_search l _ hs4) kk1 (o_lt hc (by decide)) rfl mV_X1_search kN_X5_180 ⟨Nat.le_of_ble_eq_true rfl, Nat.le_of_ble_eq_true rfl⟩ ⟨Nat.le_of_ble_eq_true rfl, Nat.le_of_ble_eq_true rfl⟩ rfl rfl (Nat.le_of_ble_eq_true rfl) dX5_sample_39 (fun σ' h => ?_)
    subst h
    refine r_aload_n (pc := 42) hc 0 dX5_sample_42 rfl rfl ?_
    refine r_getr (pc := 43) (j := 29) hc 3 kk5 (o_lt hc (by decide)) rfl (by decide) kF_X5_33 rfl rfl dX5_sample_43 ?_
    refine r_aload_n (pc := 46) hc 0 dX5_sample_46 rfl rfl ?_
    refine r_getr (pc := 47) (j := 1) hc 0 kk5 (o_lt hc (by decide)) rfl (by decide) kF_X5_12 rfl rfl dX5_sample_47 ?_
    refine r_aload_n (pc := 50) hc 0 dX5_sample_50 rfl rfl ?_
    refine r_getr (pc := 51) (j := 28) hc 2 kk5 (o_lt hc (by decide)) rfl (by decide) kF_X5_26 rfl rfl dX5_sample_51 ?_
    obtain ⟨hs6, hok⟩ := hok
    refine r_callVN_v (pc := 54) (as := [.ref (gAd G _), .ref (gAd G _)]) hc (c_X4_judge l _ hs6) kk4 (o_lt hc (by decide)) rfl mV_X4_judge kN_X5_202 ⟨Nat.le_of_ble_eq_true rfl, Nat.le_of_ble_eq_true rfl⟩ ⟨Nat.le_of_ble_eq_true rfl, Nat.le_of_ble_eq_true rfl⟩ rfl rfl (Nat.le_of_ble_eq_true rfl) dX5_sample_54 (fun σ' h => ?_)
    subst h
    refine r_aload_n (pc := 57) hc 0 dX5_sample_57 rfl rfl ?_
    refine r_getr (pc := 58) (j := 1) hc 0 kk5 (o_lt hc (by decide)) rfl (by decide) kF_X5_12 rfl rfl dX5_sample_58 ?_
    refine r_aload_n (pc := 61) hc 0 dX5_sample_61 rfl rfl ?_
    refine r_getr (pc := 62) (j := 29) hc 3 kk5 (o_lt hc (by decide)) rfl (by decide) kF_X5_33 rfl rfl dX5_sample_62 ?_
    refine r_getiN (pc := 65) hc 1 kk4 (o_lt hc (by decide)) rfl (by decide) kN_X5_206 rfl rfl dX5_sample_65 ?_
    refine r_putN (pc := 68) hc 1 kk3 (o_lt hc (by decide)) rfl (by decide) kN_X5_85 rfl rfl rfl rfl rfl dX5_sample_68 ?_
    refine r_aload_n (pc := 71) hc 0 dX5_sample_71 rfl rfl ?_
    refine r_getr (pc := 72) (j := 1) hc 0 kk5 (o_lt hc (by decide)) rfl (by decide) kF_X5_12 rfl rfl dX5_sample_72 ?_
    refine r_aload_n (pc := 75) hc 0 dX5_sample_75 rfl rfl ?_
    refine r_getr (pc := 76) (j := 29) hc 3 kk5 (o_lt hc (by decide)) rfl (by decide) kF_X5_33 rfl rfl dX5_sample_76 ?_
    refine r_getiN (pc := 79) hc 2 kk4 (o_lt hc (by decide)) rfl (by decide) kN_X5_207 rfl rfl dX5_sample_79 ?_
    refine r_putN (pc := 82) hc 6 kk3 (o_lt hc (by decide)) rfl (by decide) kN_X5_91 rfl rfl rfl rfl rfl dX5_sample_82 ?_
    refine r_aload_n (pc := 85) hc 0 dX5_sample_85 rfl rfl ?_
    refine r_getr (pc := 86) (j := 29) hc 3 kk5 (o_lt hc (by decide)) rfl (by decide) kF_X5_33 rfl rfl dX5_sample_86 ?_
    refine r_getiN (pc := 89) hc 0 kk4 (o_lt hc (by decide)) rfl (by decide) kN_X5_208 rfl rfl dX5_sample_89 ?_
    refine r_if_eq (pc := 92) (tgt := 106) hc dX5_sample_92 (by decide) (fun c92 => ?_) (fun c92 => ?_)
    · have hok := hok.1 c92
      have hq := o_qp hq c92
      refine r_aload_n (pc := 106) hc 0 dX5_sample_106 rfl rfl ?_
      refine r_getr (pc := 107) (j := 1) hc 0 kk5 (o_lt hc (by decide)) rfl (by decide) kF_X5_12 rfl rfl dX5_sample_107 ?_
      refine r_aload_n (pc := 110) hc 0 dX5_sample_110 rfl rfl ?_
      refine r_getr (pc := 111) (j := 29) hc 3 kk5 (o_lt hc (by decide)) rfl (by decide) kF_X5_33 rfl rfl dX5_sample_111 ?_
      refine r_getiN (pc := 114) hc 3 kk4 (o_lt hc (by decide)) rfl (by decide) kN_X5_212 rfl rfl dX5_sample_114 ?_
      refine r_putN (pc := 117) hc 5 kk3 (o_lt hc (by decide)) rfl (by decide) kN_X5_88 rfl rfl rfl rfl rfl dX5_sample_117 ?_
      refine r_aload_n (pc := 120) hc 0 dX5_sample_120 rfl rfl ?_
      refine r_getr (pc := 121) (j := 1) hc 0 kk5 (o_lt hc (by decide)) rfl (by decide) kF_X5_12 rfl rfl dX5_sample_121 ?_
      refine r_getiN (pc := 124) hc 5 kk3 (o_lt hc (by decide)) rfl (by decide) kN_X5_88 rfl rfl dX5_sample_124 ?_
      exact r_iret hc hr rfl dX5_sample_127 (hq (_, _) rfl)
    · have hok := hok.2 c92
      have hq := o_qn hq c92
      refine r_ldc (pc := 95) (v := 100000) hc kK_X5_211 dX5_sample_95 ?_
      refine r_aload_n (pc := 97) hc 0 dX5_sample_97 rfl rfl ?_
      refine r_getr (pc := 98) (j := 29) hc 3 kk5 (o_lt hc (by decide)) rfl (by decide) kF_X5_33 rfl rfl dX5_sample_98 ?_
      refine r_getiN (pc := 101) hc 0 kk4 (o_lt hc (by decide)) rfl (by decide) kN_X5_208 rfl rfl dX5_sample_101 ?_
      refine r_iadd (pc := 104) hc dX5_sample_104 ?_
      exact r_iret hc hr rfl dX5_sample_105 (hq (_, _) rfl)
  · have hok := hok.1 c7
    have hq := o_qp hq c7
    refine r_bipush (pc := 10) (v := (-2)) hc dX5_sample_10 (by decide) ?_
    exact r_iret hc hr rfl dX5_sample_12 (hq (_, _) rfl)
noncomputable def f_X5_turn_81  : Nat → Int32 → Int32 → Int32 → Int32 → Sg → Int32 × Sg
  | 0 => fun _ _ _ _ σ => (0, σ)
  | n + 1 => fun x2 x3 x4 x5 σ =>
    o_ite ((if 0 ≤ x3 then x3 else 0 - x3) ≤ x5) (
      let σ1 := pu σ 1 0 x2
      (x2, σ1)) (
      let σ3 := f_X3_crossBound x4 σ
      f_X5_turn_81 n x2 x3 x4 (x5 + 1) σ3)
def ok_X5_turn_81  : Nat → Int32 → Int32 → Int32 → Int32 → Sg → Prop
  | 0 => fun _ _ _ _ _ => False
  | n + 1 => fun x2 x3 x4 x5 σ =>
    (((if 0 ≤ x3 then x3 else 0 - x3) ≤ x5) →
      let σ1 := pu σ 1 0 x2
      True) ∧ (¬ ((if 0 ≤ x3 then x3 else 0 - x3) ≤ x5) →
      (ok_X3_crossBound x4 σ) ∧ (let σ3 := f_X3_crossBound x4 σ
      ok_X5_turn_81  n x2 x3 x4 (x5 + 1) σ3))
noncomputable def f_X5_turn (p1 : Int32) (σ : Sg) : Int32 × Sg :=
  o_ite ((f_X5_isOutside p1 (-9999) 9999 σ) = 0) (
    o_ite ((f_X5_isOutside ((σ 1 0) + p1) 0 65279 σ) = 0) (
      let σ4 := f_X2_keep σ
      o_ite (0 ≤ ((((σ 1 0) + p1) / 1020) - ((σ4 1 0) / 1020))) (
        f_X5_turn_81  oF ((σ 1 0) + p1) ((((σ 1 0) + p1) / 1020) - ((σ4 1 0) / 1020)) 1 0 σ4) (
        f_X5_turn_81  oF ((σ 1 0) + p1) ((((σ 1 0) + p1) / 1020) - ((σ4 1 0) / 1020)) (-1) 0 σ4)) (
      ((-2), σ))) (
    ((-1), σ))
def ok_X5_turn (p1 : Int32) (σ : Sg) : Prop :=
  (ok_X5_isOutside p1 (-9999) 9999 σ) ∧ ((((f_X5_isOutside p1 (-9999) 9999 σ) = 0) →
    (ok_X5_isOutside ((σ 1 0) + p1) 0 65279 σ) ∧ ((((f_X5_isOutside ((σ 1 0) + p1) 0 65279 σ) = 0) →
      (ok_X2_keep σ) ∧ (let σ4 := f_X2_keep σ
      ((0 ≤ ((((σ 1 0) + p1) / 1020) - ((σ4 1 0) / 1020))) →
        ok_X5_turn_81  oF ((σ 1 0) + p1) ((((σ 1 0) + p1) / 1020) - ((σ4 1 0) / 1020)) 1 0 σ4) ∧ (¬ (0 ≤ ((((σ 1 0) + p1) / 1020) - ((σ4 1 0) / 1020))) →
        ok_X5_turn_81  oF ((σ 1 0) + p1) ((((σ 1 0) + p1) / 1020) - ((σ4 1 0) / 1020)) (-1) 0 σ4))) ∧ (¬ ((f_X5_isOutside ((σ 1 0) + p1) 0 65279 σ) = 0) →
      True))) ∧ (¬ ((f_X5_isOutside p1 (-9999) 9999 σ) = 0) →
    True))
set_option maxHeartbeats 4000000 in
set_option maxRecDepth 100000 in
theorem t_X5_turn_81 {p : Program} {l : Launch} {e : Env} {s : State} {m : MethodId} {args : Array Value} {below : List Frame} {meth : Method} {c : Code} {G : Gt} {post : Int32 → Sg → Prop}   (hc : o_Cx p s m args meth c G cX5_turn yX5_turn.cls 6) (hr : meth.sig.returnType = (some .int)) : ∀ (n : Nat) (x2 : Int32) (x3 : Int32) (x4 : Int32) (x5 : Int32) (σ : Sg) (hok : ok_X5_turn_81  n x2 x3 x4 x5 σ) (hq : ∀ q : Int32 × Sg, q = f_X5_turn_81  n x2 x3 x4 x5 σ → post q.1 q.2), o_V p l e { frames := 3, cells := 0, slots := 0, locals := 66 } s m args below meth c (MQ below (va_Qi post (fun σ' t => o_W G σ' t.heap) (o_A G)) args s 0 0 (o_A G)) G 0 0 6 σ 81 [(0, .ref (gAd G 0)), (2, .int x2), (3, .int x3), (4, .int x4), (5, .int x5)] [] := by
  intro n
  induction n with
  | zero =>
    intro x2 x3 x4 x5 σ hok hq
    exact hok.elim
  | succ n ih =>
    intro x2 x3 x4 x5 σ hok hq
    refine r_iload (pc := 81) hc 4 dX5_turn_81 rfl ?_
    refine r_iload_n (pc := 83) hc 2 dX5_turn_83 rfl rfl ?_
    refine r_abs (pc := 84) hc kM_X5_57 (Nat.le_of_ble_eq_true rfl) (Nat.le_of_ble_eq_true rfl) ⟨Nat.le_of_ble_eq_true rfl, Nat.le_of_ble_eq_true rfl⟩ dX5_turn_84 ?_
    refine r_icmp_ge (pc := 87) (tgt := 105) hc dX5_turn_87 (by decide) (fun c87 => ?_) (fun c87 => ?_)
    · have hok := hok.1 c87
      have hq := o_qp hq c87
      refine r_aload_n (pc := 105) hc 0 dX5_turn_105 rfl rfl ?_
      refine r_getr (pc := 106) (j := 1) hc 0 kk5 (o_lt hc (by decide)) rfl (by decide) kF_X5_12 rfl rfl dX5_turn_106 ?_
      refine r_iload_n (pc := 109) hc 1 dX5_turn_109 rfl rfl ?_
      refine r_putN (pc := 110) hc 0 kk3 (o_lt hc (by decide)) rfl (by decide) kN_X5_48 rfl rfl rfl rfl rfl dX5_turn_110 ?_
      refine r_iload_n (pc := 113) hc 1 dX5_turn_113 rfl rfl ?_
      exact r_iret hc hr rfl dX5_turn_114 (hq (_, _) rfl)
    · have hok := hok.2 c87
      have hq := o_qn hq c87
      refine r_aload_n (pc := 90) hc 0 dX5_turn_90 rfl rfl ?_
      refine r_getr (pc := 91) (j := 1) hc 0 kk5 (o_lt hc (by decide)) rfl (by decide) kF_X5_12 rfl rfl dX5_turn_91 ?_
      refine r_iload (pc := 94) hc 3 dX5_turn_94 rfl ?_
      obtain ⟨hs2, hok⟩ := hok
      refine r_callVN_v (pc := 96) (as := [.int _]) hc (c_X3_crossBound l _ hs2) kk3 (o_lt hc (by decide)) rfl mV_X3_crossBound kN_X5_63 ⟨Nat.le_of_ble_eq_true rfl, Nat.le_of_ble_eq_true rfl⟩ ⟨Nat.le_of_ble_eq_true rfl, Nat.le_of_ble_eq_true rfl⟩ rfl rfl (Nat.le_of_ble_eq_true rfl) dX5_turn_96 (fun σ' h => ?_)
      subst h
      refine r_iinc (pc := 99) (q := 4) (v := _ + 1) (lv' := [(5, _), (0, _), (2, _), (3, _), (4, _)]) hc dX5_turn_99 rfl rfl (by decide) rfl ?_
      refine r_goto (pc := 102) (tgt := 81) hc dX5_turn_102 (by decide) ?_
      exact o_V.sub (ih _ _ _ _ _ hok hq) [1, 2, 3, 4, 0] rfl
set_option maxHeartbeats 4000000 in
set_option maxRecDepth 100000 in
theorem c_X5_turn (l : Launch) (G : Gt) {p1 : Int32}  {σ : Sg} (hok : ok_X5_turn p1 σ) : o_Ci l G yX5_turn cX5_turn 6 (some .int) 3 66 [.ref (gAd G 0), .int p1] σ (fun r σ' => r = (f_X5_turn p1 σ).1 ∧ σ' = (f_X5_turn p1 σ).2) := by
  refine o_Ci.of (by decide +kernel) (Nat.le_of_ble_eq_true rfl) ?_
  intro p e s m args below meth c hc hr
  have hq : ∀ q : Int32 × Sg, q = f_X5_turn p1 σ → (fun r σ' => r = (f_X5_turn p1 σ).1 ∧ σ' = (f_X5_turn p1 σ).2) q.1 q.2 := fun q h => ⟨congrArg Prod.fst h, congrArg Prod.snd h⟩
  refine r_iload_n (pc := 0) hc 1 dX5_turn_0 rfl rfl ?_
  refine r_sipush (pc := 1) (v := (-9999)) hc dX5_turn_1 (by decide) ?_
  refine r_sipush (pc := 4) (v := 9999) hc dX5_turn_4 (by decide) ?_
  obtain ⟨hs1, hok⟩ := hok
  refine r_callS_i (pc := 7) (as := [.int _, .int _, .int _]) hc (c_X5_isOutside l _ hs1) mS_X5_isOutside kM_X5_44 ⟨Nat.le_of_ble_eq_true rfl, Nat.le_of_ble_eq_true rfl⟩ ⟨Nat.le_of_ble_eq_true rfl, Nat.le_of_ble_eq_true rfl⟩ rfl rfl (Nat.le_of_ble_eq_true rfl) dX5_turn_7 (fun r σ' h => ?_)
  obtain ⟨rfl, rfl⟩ := h
  refine r_if_eq (pc := 10) (tgt := 15) hc dX5_turn_10 (by decide) (fun c10 => ?_) (fun c10 => ?_)
  · have hok := hok.1 c10
    have hq := o_qp hq c10
    refine r_aload_n (pc := 15) hc 0 dX5_turn_15 rfl rfl ?_
    refine r_getr (pc := 16) (j := 1) hc 0 kk5 (o_lt hc (by decide)) rfl (by decide) kF_X5_12 rfl rfl dX5_turn_16 ?_
    refine r_getiN (pc := 19) hc 0 kk3 (o_lt hc (by decide)) rfl (by decide) kN_X5_48 rfl rfl dX5_turn_19 ?_
    refine r_iload_n (pc := 22) hc 1 dX5_turn_22 rfl rfl ?_
    refine r_iadd (pc := 23) hc dX5_turn_23 ?_
    refine r_istore_n (pc := 24) (lv' := [(2, _), (0, _), (1, _)]) hc dX5_turn_24 rfl (by decide) rfl ?_
    refine r_iload_n (pc := 25) hc 0 dX5_turn_25 rfl rfl ?_
    refine r_iconst (pc := 26) (v := 0) hc dX5_turn_26 rfl ?_
    refine r_ldc (pc := 27) (v := 65279) hc kK_X5_52 dX5_turn_27 ?_
    obtain ⟨hs2, hok⟩ := hok
    refine r_callS_i (pc := 29) (as := [.int _, .int _, .int _]) hc (c_X5_isOutside l _ hs2) mS_X5_isOutside kM_X5_44 ⟨Nat.le_of_ble_eq_true rfl, Nat.le_of_ble_eq_true rfl⟩ ⟨Nat.le_of_ble_eq_true rfl, Nat.le_of_ble_eq_true rfl⟩ rfl rfl (Nat.le_of_ble_eq_true rfl) dX5_turn_29 (fun r σ' h => ?_)
    obtain ⟨rfl, rfl⟩ := h
    refine r_if_eq (pc := 32) (tgt := 38) hc dX5_turn_32 (by decide) (fun c32 => ?_) (fun c32 => ?_)
    · have hok := hok.1 c32
      have hq := o_qp hq c32
      refine r_aload_n (pc := 38) hc 1 dX5_turn_38 rfl rfl ?_
      refine r_getr (pc := 39) (j := 6) hc 1 kk5 (o_lt hc (by decide)) rfl (by decide) kF_X5_19 rfl rfl dX5_turn_39 ?_
      refine r_aload_n (pc := 42) hc 1 dX5_turn_42 rfl rfl ?_
      refine r_getr (pc := 43) (j := 1) hc 0 kk5 (o_lt hc (by decide)) rfl (by decide) kF_X5_12 rfl rfl dX5_turn_43 ?_
      obtain ⟨hs3, hok⟩ := hok
      refine r_callVN_v (pc := 46) (as := [.ref (gAd G _)]) hc (c_X2_keep l _ hs3) kk2 (o_lt hc (by decide)) rfl mV_X2_keep kN_X5_53 ⟨Nat.le_of_ble_eq_true rfl, Nat.le_of_ble_eq_true rfl⟩ ⟨Nat.le_of_ble_eq_true rfl, Nat.le_of_ble_eq_true rfl⟩ rfl rfl (Nat.le_of_ble_eq_true rfl) dX5_turn_46 (fun σ' h => ?_)
      subst h
      refine r_iload_n (pc := 49) hc 0 dX5_turn_49 rfl rfl ?_
      refine r_sipush (pc := 50) (v := 1020) hc dX5_turn_50 (by decide) ?_
      refine r_idiv (pc := 53) hc dX5_turn_53 (by decide) ?_
      refine r_aload_n (pc := 54) hc 1 dX5_turn_54 rfl rfl ?_
      refine r_getr (pc := 55) (j := 1) hc 0 kk5 (o_lt hc (by decide)) rfl (by decide) kF_X5_12 rfl rfl dX5_turn_55 ?_
      refine r_getiN (pc := 58) hc 0 kk3 (o_lt hc (by decide)) rfl (by decide) kN_X5_48 rfl rfl dX5_turn_58 ?_
      refine r_sipush (pc := 61) (v := 1020) hc dX5_turn_61 (by decide) ?_
      refine r_idiv (pc := 64) hc dX5_turn_64 (by decide) ?_
      refine r_isub (pc := 65) hc dX5_turn_65 ?_
      refine r_istore_n (pc := 66) (lv' := [(3, _), (2, _), (0, _), (1, _)]) hc dX5_turn_66 rfl (by decide) rfl ?_
      refine r_iload_n (pc := 67) hc 0 dX5_turn_67 rfl rfl ?_
      refine r_if_ge (pc := 68) (tgt := 75) hc dX5_turn_68 (by decide) (fun c68 => ?_) (fun c68 => ?_)
      · have hok := hok.1 c68
        have hq := o_qp hq c68
        refine r_iconst (pc := 75) (v := 1) hc dX5_turn_75 rfl ?_
        refine r_istore (pc := 76) (lv' := [(4, _), (3, _), (2, _), (0, _), (1, _)]) hc dX5_turn_76 (by decide) rfl ?_
        refine r_iconst (pc := 78) (v := 0) hc dX5_turn_78 rfl ?_
        refine r_istore (pc := 79) (lv' := [(5, _), (4, _), (3, _), (2, _), (0, _), (1, _)]) hc dX5_turn_79 (by decide) rfl ?_
        exact o_V.sub (t_X5_turn_81  hc hr oF _ _ _ _ _ hok hq) [4, 3, 2, 1, 0] rfl
      · have hok := hok.2 c68
        have hq := o_qn hq c68
        refine r_iconst (pc := 71) (v := (-1)) hc dX5_turn_71 rfl ?_
        refine r_goto (pc := 72) (tgt := 76) hc dX5_turn_72 (by decide) ?_
        refine r_istore (pc := 76) (lv' := [(4, _), (3, _), (2, _), (0, _), (1, _)]) hc dX5_turn_76 (by decide) rfl ?_
        refine r_iconst (pc := 78) (v := 0) hc dX5_turn_78 rfl ?_
        refine r_istore (pc := 79) (lv' := [(5, _), (4, _), (3, _), (2, _), (0, _), (1, _)]) hc dX5_turn_79 (by decide) rfl ?_
        exact o_V.sub (t_X5_turn_81  hc hr oF _ _ _ _ _ hok hq) [4, 3, 2, 1, 0] rfl
    · have hok := hok.2 c32
      have hq := o_qn hq c32
      refine r_bipush (pc := 35) (v := (-2)) hc dX5_turn_35 (by decide) ?_
      exact r_iret hc hr rfl dX5_turn_37 (hq (_, _) rfl)
  · have hok := hok.2 c10
    have hq := o_qn hq c10
    refine r_iconst (pc := 13) (v := (-1)) hc dX5_turn_13 rfl ?_
    exact r_iret hc hr rfl dX5_turn_14 (hq (_, _) rfl)
noncomputable def f_X5_brownout (p1 : Int32) (σ : Sg) : Int32 × Sg :=
  o_ite ((f_X5_isOutside p1 1 9 σ) = 0) (
    o_ite (((σ 1 4) + p1) ≤ 99) (
      let σ3 := f_X2_keep σ
      let σ4 := pu σ3 1 4 ((σ3 1 4) + p1)
      ((σ4 1 4), σ4)) (
      ((-3), σ))) (
    ((-1), σ))
def ok_X5_brownout (p1 : Int32) (σ : Sg) : Prop :=
  (ok_X5_isOutside p1 1 9 σ) ∧ ((((f_X5_isOutside p1 1 9 σ) = 0) →
    ((((σ 1 4) + p1) ≤ 99) →
      (ok_X2_keep σ) ∧ (let σ3 := f_X2_keep σ
      let σ4 := pu σ3 1 4 ((σ3 1 4) + p1)
      True)) ∧ (¬ (((σ 1 4) + p1) ≤ 99) →
      True)) ∧ (¬ ((f_X5_isOutside p1 1 9 σ) = 0) →
    True))
set_option maxHeartbeats 4000000 in
set_option maxRecDepth 100000 in
theorem c_X5_brownout (l : Launch) (G : Gt) {p1 : Int32}  {σ : Sg} (hok : ok_X5_brownout p1 σ) : o_Ci l G yX5_brownout cX5_brownout 2 (some .int) 3 66 [.ref (gAd G 0), .int p1] σ (fun r σ' => r = (f_X5_brownout p1 σ).1 ∧ σ' = (f_X5_brownout p1 σ).2) := by
  refine o_Ci.of (by decide +kernel) (Nat.le_of_ble_eq_true rfl) ?_
  intro p e s m args below meth c hc hr
  have hq : ∀ q : Int32 × Sg, q = f_X5_brownout p1 σ → (fun r σ' => r = (f_X5_brownout p1 σ).1 ∧ σ' = (f_X5_brownout p1 σ).2) q.1 q.2 := fun q h => ⟨congrArg Prod.fst h, congrArg Prod.snd h⟩
  refine r_iload_n (pc := 0) hc 1 dX5_brownout_0 rfl rfl ?_
  refine r_iconst (pc := 1) (v := 1) hc dX5_brownout_1 rfl ?_
  refine r_bipush (pc := 2) (v := 9) hc dX5_brownout_2 (by decide) ?_
  obtain ⟨hs1, hok⟩ := hok
  refine r_callS_i (pc := 4) (as := [.int _, .int _, .int _]) hc (c_X5_isOutside l _ hs1) mS_X5_isOutside kM_X5_44 ⟨Nat.le_of_ble_eq_true rfl, Nat.le_of_ble_eq_true rfl⟩ ⟨Nat.le_of_ble_eq_true rfl, Nat.le_of_ble_eq_true rfl⟩ rfl rfl (Nat.le_of_ble_eq_true rfl) dX5_brownout_4 (fun r σ' h => ?_)
  obtain ⟨rfl, rfl⟩ := h
  refine r_if_eq (pc := 7) (tgt := 12) hc dX5_brownout_7 (by decide) (fun c7 => ?_) (fun c7 => ?_)
  · have hok := hok.1 c7
    have hq := o_qp hq c7
    refine r_aload_n (pc := 12) hc 0 dX5_brownout_12 rfl rfl ?_
    refine r_getr (pc := 13) (j := 1) hc 0 kk5 (o_lt hc (by decide)) rfl (by decide) kF_X5_12 rfl rfl dX5_brownout_13 ?_
    refine r_getiN (pc := 16) hc 4 kk3 (o_lt hc (by decide)) rfl (by decide) kN_X5_75 rfl rfl dX5_brownout_16 ?_
    refine r_iload_n (pc := 19) hc 1 dX5_brownout_19 rfl rfl ?_
    refine r_iadd (pc := 20) hc dX5_brownout_20 ?_
    refine r_bipush (pc := 21) (v := 99) hc dX5_brownout_21 (by decide) ?_
    refine r_icmp_le (pc := 23) (tgt := 29) hc dX5_brownout_23 (by decide) (fun c23 => ?_) (fun c23 => ?_)
    · have hok := hok.1 c23
      have hq := o_qp hq c23
      refine r_aload_n (pc := 29) hc 0 dX5_brownout_29 rfl rfl ?_
      refine r_getr (pc := 30) (j := 6) hc 1 kk5 (o_lt hc (by decide)) rfl (by decide) kF_X5_19 rfl rfl dX5_brownout_30 ?_
      refine r_aload_n (pc := 33) hc 0 dX5_brownout_33 rfl rfl ?_
      refine r_getr (pc := 34) (j := 1) hc 0 kk5 (o_lt hc (by decide)) rfl (by decide) kF_X5_12 rfl rfl dX5_brownout_34 ?_
      obtain ⟨hs2, hok⟩ := hok
      refine r_callVN_v (pc := 37) (as := [.ref (gAd G _)]) hc (c_X2_keep l _ hs2) kk2 (o_lt hc (by decide)) rfl mV_X2_keep kN_X5_53 ⟨Nat.le_of_ble_eq_true rfl, Nat.le_of_ble_eq_true rfl⟩ ⟨Nat.le_of_ble_eq_true rfl, Nat.le_of_ble_eq_true rfl⟩ rfl rfl (Nat.le_of_ble_eq_true rfl) dX5_brownout_37 (fun σ' h => ?_)
      subst h
      refine r_aload_n (pc := 40) hc 0 dX5_brownout_40 rfl rfl ?_
      refine r_getr (pc := 41) (j := 1) hc 0 kk5 (o_lt hc (by decide)) rfl (by decide) kF_X5_12 rfl rfl dX5_brownout_41 ?_
      refine r_dup (pc := 44) hc dX5_brownout_44 rfl ?_
      refine r_getiN (pc := 45) hc 4 kk3 (o_lt hc (by decide)) rfl (by decide) kN_X5_75 rfl rfl dX5_brownout_45 ?_
      refine r_iload_n (pc := 48) hc 1 dX5_brownout_48 rfl rfl ?_
      refine r_iadd (pc := 49) hc dX5_brownout_49 ?_
      refine r_putN (pc := 50) hc 4 kk3 (o_lt hc (by decide)) rfl (by decide) kN_X5_75 rfl rfl rfl rfl rfl dX5_brownout_50 ?_
      refine r_aload_n (pc := 53) hc 0 dX5_brownout_53 rfl rfl ?_
      refine r_getr (pc := 54) (j := 1) hc 0 kk5 (o_lt hc (by decide)) rfl (by decide) kF_X5_12 rfl rfl dX5_brownout_54 ?_
      refine r_getiN (pc := 57) hc 4 kk3 (o_lt hc (by decide)) rfl (by decide) kN_X5_75 rfl rfl dX5_brownout_57 ?_
      exact r_iret hc hr rfl dX5_brownout_60 (hq (_, _) rfl)
    · have hok := hok.2 c23
      have hq := o_qn hq c23
      refine r_bipush (pc := 26) (v := (-3)) hc dX5_brownout_26 (by decide) ?_
      exact r_iret hc hr rfl dX5_brownout_28 (hq (_, _) rfl)
  · have hok := hok.2 c7
    have hq := o_qn hq c7
    refine r_iconst (pc := 10) (v := (-1)) hc dX5_brownout_10 rfl ?_
    exact r_iret hc hr rfl dX5_brownout_11 (hq (_, _) rfl)
noncomputable def f_X5_charge (p1 : Int32) (σ : Sg) : Int32 × Sg :=
  o_ite ((f_X5_isOutside p1 0 999 σ) = 0) (
    let σ3 := f_X2_keep σ
    let σ4 := pu σ3 1 3 p1
    ((σ3 1 3), σ4)) (
    ((-1), σ))
def ok_X5_charge (p1 : Int32) (σ : Sg) : Prop :=
  (ok_X5_isOutside p1 0 999 σ) ∧ ((((f_X5_isOutside p1 0 999 σ) = 0) →
    (ok_X2_keep σ) ∧ (let σ3 := f_X2_keep σ
    let σ4 := pu σ3 1 3 p1
    True)) ∧ (¬ ((f_X5_isOutside p1 0 999 σ) = 0) →
    True))
set_option maxHeartbeats 4000000 in
set_option maxRecDepth 100000 in
theorem c_X5_charge (l : Launch) (G : Gt) {p1 : Int32}  {σ : Sg} (hok : ok_X5_charge p1 σ) : o_Ci l G yX5_charge cX5_charge 3 (some .int) 3 66 [.ref (gAd G 0), .int p1] σ (fun r σ' => r = (f_X5_charge p1 σ).1 ∧ σ' = (f_X5_charge p1 σ).2) := by
  refine o_Ci.of (by decide +kernel) (Nat.le_of_ble_eq_true rfl) ?_
  intro p e s m args below meth c hc hr
  have hq : ∀ q : Int32 × Sg, q = f_X5_charge p1 σ → (fun r σ' => r = (f_X5_charge p1 σ).1 ∧ σ' = (f_X5_charge p1 σ).2) q.1 q.2 := fun q h => ⟨congrArg Prod.fst h, congrArg Prod.snd h⟩
  refine r_iload_n (pc := 0) hc 1 dX5_charge_0 rfl rfl ?_
  refine r_iconst (pc := 1) (v := 0) hc dX5_charge_1 rfl ?_
  refine r_sipush (pc := 2) (v := 999) hc dX5_charge_2 (by decide) ?_
  obtain ⟨hs1, hok⟩ := hok
  refine r_callS_i (pc := 5) (as := [.int _, .int _, .int _]) hc (c_X5_isOutside l _ hs1) mS_X5_isOutside kM_X5_44 ⟨Nat.le_of_ble_eq_true rfl, Nat.le_of_ble_eq_true rfl⟩ ⟨Nat.le_of_ble_eq_true rfl, Nat.le_of_ble_eq_true rfl⟩ rfl rfl (Nat.le_of_ble_eq_true rfl) dX5_charge_5 (fun r σ' h => ?_)
  obtain ⟨rfl, rfl⟩ := h
  refine r_if_eq (pc := 8) (tgt := 13) hc dX5_charge_8 (by decide) (fun c8 => ?_) (fun c8 => ?_)
  · have hok := hok.1 c8
    have hq := o_qp hq c8
    refine r_aload_n (pc := 13) hc 0 dX5_charge_13 rfl rfl ?_
    refine r_getr (pc := 14) (j := 6) hc 1 kk5 (o_lt hc (by decide)) rfl (by decide) kF_X5_19 rfl rfl dX5_charge_14 ?_
    refine r_aload_n (pc := 17) hc 0 dX5_charge_17 rfl rfl ?_
    refine r_getr (pc := 18) (j := 1) hc 0 kk5 (o_lt hc (by decide)) rfl (by decide) kF_X5_12 rfl rfl dX5_charge_18 ?_
    obtain ⟨hs2, hok⟩ := hok
    refine r_callVN_v (pc := 21) (as := [.ref (gAd G _)]) hc (c_X2_keep l _ hs2) kk2 (o_lt hc (by decide)) rfl mV_X2_keep kN_X5_53 ⟨Nat.le_of_ble_eq_true rfl, Nat.le_of_ble_eq_true rfl⟩ ⟨Nat.le_of_ble_eq_true rfl, Nat.le_of_ble_eq_true rfl⟩ rfl rfl (Nat.le_of_ble_eq_true rfl) dX5_charge_21 (fun σ' h => ?_)
    subst h
    refine r_aload_n (pc := 24) hc 0 dX5_charge_24 rfl rfl ?_
    refine r_getr (pc := 25) (j := 1) hc 0 kk5 (o_lt hc (by decide)) rfl (by decide) kF_X5_12 rfl rfl dX5_charge_25 ?_
    refine r_getiN (pc := 28) hc 3 kk3 (o_lt hc (by decide)) rfl (by decide) kN_X5_78 rfl rfl dX5_charge_28 ?_
    refine r_istore_n (pc := 31) (lv' := [(2, _), (0, _), (1, _)]) hc dX5_charge_31 rfl (by decide) rfl ?_
    refine r_aload_n (pc := 32) hc 1 dX5_charge_32 rfl rfl ?_
    refine r_getr (pc := 33) (j := 1) hc 0 kk5 (o_lt hc (by decide)) rfl (by decide) kF_X5_12 rfl rfl dX5_charge_33 ?_
    refine r_iload_n (pc := 36) hc 2 dX5_charge_36 rfl rfl ?_
    refine r_putN (pc := 37) hc 3 kk3 (o_lt hc (by decide)) rfl (by decide) kN_X5_78 rfl rfl rfl rfl rfl dX5_charge_37 ?_
    refine r_iload_n (pc := 40) hc 0 dX5_charge_40 rfl rfl ?_
    exact r_iret hc hr rfl dX5_charge_41 (hq (_, _) rfl)
  · have hok := hok.2 c8
    have hq := o_qn hq c8
    refine r_iconst (pc := 11) (v := (-1)) hc dX5_charge_11 rfl ?_
    exact r_iret hc hr rfl dX5_charge_12 (hq (_, _) rfl)
noncomputable def f_X5_correct (p1 : Int32) (p2 : Int32) (p3 : Int32) (σ : Sg) : Int32 × Sg :=
  o_ite ((f_X5_isCell p1 p2 σ) = 0) (
    ((-1), σ)) (
    o_ite ((f_X5_isOutside p3 (-20) 20 σ) = 0) (
      let σ4 := f_X2_keep σ
      let σ9 := f_X5_put 5 (f_X5_cell p1 p2 σ4) p3 σ4
      (((f_X5_at 5 (f_X5_cell p1 p2 σ4) σ4) + 100), σ9)) (
      ((-1), σ)))
def ok_X5_correct (p1 : Int32) (p2 : Int32) (p3 : Int32) (σ : Sg) : Prop :=
  (ok_X5_isCell p1 p2 σ) ∧ ((((f_X5_isCell p1 p2 σ) = 0) →
    True) ∧ (¬ ((f_X5_isCell p1 p2 σ) = 0) →
    (ok_X5_isOutside p3 (-20) 20 σ) ∧ ((((f_X5_isOutside p3 (-20) 20 σ) = 0) →
      (ok_X2_keep σ) ∧ (let σ4 := f_X2_keep σ
      (ok_X5_cell p1 p2 σ4) ∧ ((ok_X5_at 5 (f_X5_cell p1 p2 σ4) σ4) ∧ ((ok_X5_cell p1 p2 σ4) ∧ ((ok_X5_put 5 (f_X5_cell p1 p2 σ4) p3 σ4) ∧ (let σ9 := f_X5_put 5 (f_X5_cell p1 p2 σ4) p3 σ4
      True)))))) ∧ (¬ ((f_X5_isOutside p3 (-20) 20 σ) = 0) →
      True))))
set_option maxHeartbeats 4000000 in
set_option maxRecDepth 100000 in
theorem c_X5_correct (l : Launch) (G : Gt) {p1 : Int32} {p2 : Int32} {p3 : Int32}  {σ : Sg} (hok : ok_X5_correct p1 p2 p3 σ) : o_Ci l G yX5_correct cX5_correct 5 (some .int) 3 66 [.ref (gAd G 0), .int p1, .int p2, .int p3] σ (fun r σ' => r = (f_X5_correct p1 p2 p3 σ).1 ∧ σ' = (f_X5_correct p1 p2 p3 σ).2) := by
  refine o_Ci.of (by decide +kernel) (Nat.le_of_ble_eq_true rfl) ?_
  intro p e s m args below meth c hc hr
  have hq : ∀ q : Int32 × Sg, q = f_X5_correct p1 p2 p3 σ → (fun r σ' => r = (f_X5_correct p1 p2 p3 σ).1 ∧ σ' = (f_X5_correct p1 p2 p3 σ).2) q.1 q.2 := fun q h => ⟨congrArg Prod.fst h, congrArg Prod.snd h⟩
  refine r_iload_n (pc := 0) hc 1 dX5_correct_0 rfl rfl ?_
  refine r_iload_n (pc := 1) hc 2 dX5_correct_1 rfl rfl ?_
  obtain ⟨hs1, hok⟩ := hok
  refine r_callS_i (pc := 2) (as := [.int _, .int _]) hc (c_X5_isCell l _ hs1) mS_X5_isCell kM_X5_112 ⟨Nat.le_of_ble_eq_true rfl, Nat.le_of_ble_eq_true rfl⟩ ⟨Nat.le_of_ble_eq_true rfl, Nat.le_of_ble_eq_true rfl⟩ rfl rfl (Nat.le_of_ble_eq_true rfl) dX5_correct_2 (fun r σ' h => ?_)
  obtain ⟨rfl, rfl⟩ := h
  refine r_if_eq (pc := 5) (tgt := 19) hc dX5_correct_5 (by decide) (fun c5 => ?_) (fun c5 => ?_)
  · have hok := hok.1 c5
    have hq := o_qp hq c5
    refine r_iconst (pc := 19) (v := (-1)) hc dX5_correct_19 rfl ?_
    exact r_iret hc hr rfl dX5_correct_20 (hq (_, _) rfl)
  · have hok := hok.2 c5
    have hq := o_qn hq c5
    refine r_iload_n (pc := 8) hc 3 dX5_correct_8 rfl rfl ?_
    refine r_bipush (pc := 9) (v := (-20)) hc dX5_correct_9 (by decide) ?_
    refine r_bipush (pc := 11) (v := 20) hc dX5_correct_11 (by decide) ?_
    obtain ⟨hs2, hok⟩ := hok
    refine r_callS_i (pc := 13) (as := [.int _, .int _, .int _]) hc (c_X5_isOutside l _ hs2) mS_X5_isOutside kM_X5_44 ⟨Nat.le_of_ble_eq_true rfl, Nat.le_of_ble_eq_true rfl⟩ ⟨Nat.le_of_ble_eq_true rfl, Nat.le_of_ble_eq_true rfl⟩ rfl rfl (Nat.le_of_ble_eq_true rfl) dX5_correct_13 (fun r σ' h => ?_)
    obtain ⟨rfl, rfl⟩ := h
    refine r_if_eq (pc := 16) (tgt := 21) hc dX5_correct_16 (by decide) (fun c16 => ?_) (fun c16 => ?_)
    · have hok := hok.1 c16
      have hq := o_qp hq c16
      refine r_aload_n (pc := 21) hc 0 dX5_correct_21 rfl rfl ?_
      refine r_getr (pc := 22) (j := 6) hc 1 kk5 (o_lt hc (by decide)) rfl (by decide) kF_X5_19 rfl rfl dX5_correct_22 ?_
      refine r_aload_n (pc := 25) hc 0 dX5_correct_25 rfl rfl ?_
      refine r_getr (pc := 26) (j := 1) hc 0 kk5 (o_lt hc (by decide)) rfl (by decide) kF_X5_12 rfl rfl dX5_correct_26 ?_
      obtain ⟨hs3, hok⟩ := hok
      refine r_callVN_v (pc := 29) (as := [.ref (gAd G _)]) hc (c_X2_keep l _ hs3) kk2 (o_lt hc (by decide)) rfl mV_X2_keep kN_X5_53 ⟨Nat.le_of_ble_eq_true rfl, Nat.le_of_ble_eq_true rfl⟩ ⟨Nat.le_of_ble_eq_true rfl, Nat.le_of_ble_eq_true rfl⟩ rfl rfl (Nat.le_of_ble_eq_true rfl) dX5_correct_29 (fun σ' h => ?_)
      subst h
      refine r_aload_n (pc := 32) hc 0 dX5_correct_32 rfl rfl ?_
      refine r_getr (pc := 33) (j := 1) hc 0 kk5 (o_lt hc (by decide)) rfl (by decide) kF_X5_12 rfl rfl dX5_correct_33 ?_
      refine r_getrN (pc := 36) (j := 5) hc 10 kk3 (o_lt hc (by decide)) rfl (by decide) kN_X5_171 rfl rfl dX5_correct_36 ?_
      refine r_iload_n (pc := 39) hc 1 dX5_correct_39 rfl rfl ?_
      refine r_iload_n (pc := 40) hc 2 dX5_correct_40 rfl rfl ?_
      obtain ⟨hs5, hok⟩ := hok
      refine r_callS_i (pc := 41) (as := [.int _, .int _]) hc (c_X5_cell l _ hs5) mS_X5_cell kM_X5_120 ⟨Nat.le_of_ble_eq_true rfl, Nat.le_of_ble_eq_true rfl⟩ ⟨Nat.le_of_ble_eq_true rfl, Nat.le_of_ble_eq_true rfl⟩ rfl rfl (Nat.le_of_ble_eq_true rfl) dX5_correct_41 (fun r σ' h => ?_)
      obtain ⟨rfl, rfl⟩ := h
      obtain ⟨hs6, hok⟩ := hok
      refine r_callS_i (pc := 44) (as := [.ref (gAd G _), .int _]) hc (c_X5_at l _ (Or.inl ⟨by decide, rfl⟩) hs6) mS_X5_at kM_X5_124 ⟨Nat.le_of_ble_eq_true rfl, Nat.le_of_ble_eq_true rfl⟩ ⟨Nat.le_of_ble_eq_true rfl, Nat.le_of_ble_eq_true rfl⟩ rfl rfl (Nat.le_of_ble_eq_true rfl) dX5_correct_44 (fun r σ' h => ?_)
      obtain ⟨rfl, rfl⟩ := h
      refine r_istore (pc := 47) (lv' := [(4, _), (0, _), (1, _), (2, _), (3, _)]) hc dX5_correct_47 (by decide) rfl ?_
      refine r_aload_n (pc := 49) hc 1 dX5_correct_49 rfl rfl ?_
      refine r_getr (pc := 50) (j := 1) hc 0 kk5 (o_lt hc (by decide)) rfl (by decide) kF_X5_12 rfl rfl dX5_correct_50 ?_
      refine r_getrN (pc := 53) (j := 5) hc 10 kk3 (o_lt hc (by decide)) rfl (by decide) kN_X5_171 rfl rfl dX5_correct_53 ?_
      refine r_iload_n (pc := 56) hc 2 dX5_correct_56 rfl rfl ?_
      refine r_iload_n (pc := 57) hc 3 dX5_correct_57 rfl rfl ?_
      obtain ⟨hs7, hok⟩ := hok
      refine r_callS_i (pc := 58) (as := [.int _, .int _]) hc (c_X5_cell l _ hs7) mS_X5_cell kM_X5_120 ⟨Nat.le_of_ble_eq_true rfl, Nat.le_of_ble_eq_true rfl⟩ ⟨Nat.le_of_ble_eq_true rfl, Nat.le_of_ble_eq_true rfl⟩ rfl rfl (Nat.le_of_ble_eq_true rfl) dX5_correct_58 (fun r σ' h => ?_)
      obtain ⟨rfl, rfl⟩ := h
      refine r_iload_n (pc := 61) hc 4 dX5_correct_61 rfl rfl ?_
      obtain ⟨hs8, hok⟩ := hok
      refine r_callS_v (pc := 62) (as := [.ref (gAd G _), .int _, .int _]) hc (c_X5_put l _ ⟨(by decide), rfl⟩ hs8) mS_X5_put kM_X5_128 ⟨Nat.le_of_ble_eq_true rfl, Nat.le_of_ble_eq_true rfl⟩ ⟨Nat.le_of_ble_eq_true rfl, Nat.le_of_ble_eq_true rfl⟩ rfl rfl (Nat.le_of_ble_eq_true rfl) dX5_correct_62 (fun σ' h => ?_)
      subst h
      refine r_iload (pc := 65) hc 0 dX5_correct_65 rfl ?_
      refine r_bipush (pc := 67) (v := 100) hc dX5_correct_67 (by decide) ?_
      refine r_iadd (pc := 69) hc dX5_correct_69 ?_
      exact r_iret hc hr rfl dX5_correct_70 (hq (_, _) rfl)
    · have hok := hok.2 c16
      have hq := o_qn hq c16
      refine r_iconst (pc := 19) (v := (-1)) hc dX5_correct_19 rfl ?_
      exact r_iret hc hr rfl dX5_correct_20 (hq (_, _) rfl)
noncomputable def f_X5_disk (p1 : Int32) (p2 : Int32) (p3 : Int32) (σ : Sg) : Int32 × Sg :=
  o_ite ((f_X5_isCell p1 p2 σ) = 0) (
    ((-1), σ)) (
    o_ite ((f_X5_isOutside p3 (-9) 9 σ) = 0) (
      let σ4 := f_X2_keep σ
      let σ9 := f_X5_put 3 (f_X5_cell p1 p2 σ4) p3 σ4
      (((f_X5_at 3 (f_X5_cell p1 p2 σ4) σ4) + 100), σ9)) (
      ((-1), σ)))
def ok_X5_disk (p1 : Int32) (p2 : Int32) (p3 : Int32) (σ : Sg) : Prop :=
  (ok_X5_isCell p1 p2 σ) ∧ ((((f_X5_isCell p1 p2 σ) = 0) →
    True) ∧ (¬ ((f_X5_isCell p1 p2 σ) = 0) →
    (ok_X5_isOutside p3 (-9) 9 σ) ∧ ((((f_X5_isOutside p3 (-9) 9 σ) = 0) →
      (ok_X2_keep σ) ∧ (let σ4 := f_X2_keep σ
      (ok_X5_cell p1 p2 σ4) ∧ ((ok_X5_at 3 (f_X5_cell p1 p2 σ4) σ4) ∧ ((ok_X5_cell p1 p2 σ4) ∧ ((ok_X5_put 3 (f_X5_cell p1 p2 σ4) p3 σ4) ∧ (let σ9 := f_X5_put 3 (f_X5_cell p1 p2 σ4) p3 σ4
      True)))))) ∧ (¬ ((f_X5_isOutside p3 (-9) 9 σ) = 0) →
      True))))
set_option maxHeartbeats 4000000 in
set_option maxRecDepth 100000 in
theorem c_X5_disk (l : Launch) (G : Gt) {p1 : Int32} {p2 : Int32} {p3 : Int32}  {σ : Sg} (hok : ok_X5_disk p1 p2 p3 σ) : o_Ci l G yX5_disk cX5_disk 5 (some .int) 3 66 [.ref (gAd G 0), .int p1, .int p2, .int p3] σ (fun r σ' => r = (f_X5_disk p1 p2 p3 σ).1 ∧ σ' = (f_X5_disk p1 p2 p3 σ).2) := by
  refine o_Ci.of (by decide +kernel) (Nat.le_of_ble_eq_true rfl) ?_
  intro p e s m args below meth c hc hr
  have hq : ∀ q : Int32 × Sg, q = f_X5_disk p1 p2 p3 σ → (fun r σ' => r = (f_X5_disk p1 p2 p3 σ).1 ∧ σ' = (f_X5_disk p1 p2 p3 σ).2) q.1 q.2 := fun q h => ⟨congrArg Prod.fst h, congrArg Prod.snd h⟩
  refine r_iload_n (pc := 0) hc 1 dX5_disk_0 rfl rfl ?_
  refine r_iload_n (pc := 1) hc 2 dX5_disk_1 rfl rfl ?_
  obtain ⟨hs1, hok⟩ := hok
  refine r_callS_i (pc := 2) (as := [.int _, .int _]) hc (c_X5_isCell l _ hs1) mS_X5_isCell kM_X5_112 ⟨Nat.le_of_ble_eq_true rfl, Nat.le_of_ble_eq_true rfl⟩ ⟨Nat.le_of_ble_eq_true rfl, Nat.le_of_ble_eq_true rfl⟩ rfl rfl (Nat.le_of_ble_eq_true rfl) dX5_disk_2 (fun r σ' h => ?_)
  obtain ⟨rfl, rfl⟩ := h
  refine r_if_eq (pc := 5) (tgt := 19) hc dX5_disk_5 (by decide) (fun c5 => ?_) (fun c5 => ?_)
  · have hok := hok.1 c5
    have hq := o_qp hq c5
    refine r_iconst (pc := 19) (v := (-1)) hc dX5_disk_19 rfl ?_
    exact r_iret hc hr rfl dX5_disk_20 (hq (_, _) rfl)
  · have hok := hok.2 c5
    have hq := o_qn hq c5
    refine r_iload_n (pc := 8) hc 3 dX5_disk_8 rfl rfl ?_
    refine r_bipush (pc := 9) (v := (-9)) hc dX5_disk_9 (by decide) ?_
    refine r_bipush (pc := 11) (v := 9) hc dX5_disk_11 (by decide) ?_
    obtain ⟨hs2, hok⟩ := hok
    refine r_callS_i (pc := 13) (as := [.int _, .int _, .int _]) hc (c_X5_isOutside l _ hs2) mS_X5_isOutside kM_X5_44 ⟨Nat.le_of_ble_eq_true rfl, Nat.le_of_ble_eq_true rfl⟩ ⟨Nat.le_of_ble_eq_true rfl, Nat.le_of_ble_eq_true rfl⟩ rfl rfl (Nat.le_of_ble_eq_true rfl) dX5_disk_13 (fun r σ' h => ?_)
    obtain ⟨rfl, rfl⟩ := h
    refine r_if_eq (pc := 16) (tgt := 21) hc dX5_disk_16 (by decide) (fun c16 => ?_) (fun c16 => ?_)
    · have hok := hok.1 c16
      have hq := o_qp hq c16
      refine r_aload_n (pc := 21) hc 0 dX5_disk_21 rfl rfl ?_
      refine r_getr (pc := 22) (j := 6) hc 1 kk5 (o_lt hc (by decide)) rfl (by decide) kF_X5_19 rfl rfl dX5_disk_22 ?_
      refine r_aload_n (pc := 25) hc 0 dX5_disk_25 rfl rfl ?_
      refine r_getr (pc := 26) (j := 1) hc 0 kk5 (o_lt hc (by decide)) rfl (by decide) kF_X5_12 rfl rfl dX5_disk_26 ?_
      obtain ⟨hs3, hok⟩ := hok
      refine r_callVN_v (pc := 29) (as := [.ref (gAd G _)]) hc (c_X2_keep l _ hs3) kk2 (o_lt hc (by decide)) rfl mV_X2_keep kN_X5_53 ⟨Nat.le_of_ble_eq_true rfl, Nat.le_of_ble_eq_true rfl⟩ ⟨Nat.le_of_ble_eq_true rfl, Nat.le_of_ble_eq_true rfl⟩ rfl rfl (Nat.le_of_ble_eq_true rfl) dX5_disk_29 (fun σ' h => ?_)
      subst h
      refine r_aload_n (pc := 32) hc 0 dX5_disk_32 rfl rfl ?_
      refine r_getr (pc := 33) (j := 1) hc 0 kk5 (o_lt hc (by decide)) rfl (by decide) kF_X5_12 rfl rfl dX5_disk_33 ?_
      refine r_getrN (pc := 36) (j := 3) hc 8 kk3 (o_lt hc (by decide)) rfl (by decide) kN_X5_116 rfl rfl dX5_disk_36 ?_
      refine r_iload_n (pc := 39) hc 1 dX5_disk_39 rfl rfl ?_
      refine r_iload_n (pc := 40) hc 2 dX5_disk_40 rfl rfl ?_
      obtain ⟨hs5, hok⟩ := hok
      refine r_callS_i (pc := 41) (as := [.int _, .int _]) hc (c_X5_cell l _ hs5) mS_X5_cell kM_X5_120 ⟨Nat.le_of_ble_eq_true rfl, Nat.le_of_ble_eq_true rfl⟩ ⟨Nat.le_of_ble_eq_true rfl, Nat.le_of_ble_eq_true rfl⟩ rfl rfl (Nat.le_of_ble_eq_true rfl) dX5_disk_41 (fun r σ' h => ?_)
      obtain ⟨rfl, rfl⟩ := h
      obtain ⟨hs6, hok⟩ := hok
      refine r_callS_i (pc := 44) (as := [.ref (gAd G _), .int _]) hc (c_X5_at l _ (Or.inl ⟨by decide, rfl⟩) hs6) mS_X5_at kM_X5_124 ⟨Nat.le_of_ble_eq_true rfl, Nat.le_of_ble_eq_true rfl⟩ ⟨Nat.le_of_ble_eq_true rfl, Nat.le_of_ble_eq_true rfl⟩ rfl rfl (Nat.le_of_ble_eq_true rfl) dX5_disk_44 (fun r σ' h => ?_)
      obtain ⟨rfl, rfl⟩ := h
      refine r_istore (pc := 47) (lv' := [(4, _), (0, _), (1, _), (2, _), (3, _)]) hc dX5_disk_47 (by decide) rfl ?_
      refine r_aload_n (pc := 49) hc 1 dX5_disk_49 rfl rfl ?_
      refine r_getr (pc := 50) (j := 1) hc 0 kk5 (o_lt hc (by decide)) rfl (by decide) kF_X5_12 rfl rfl dX5_disk_50 ?_
      refine r_getrN (pc := 53) (j := 3) hc 8 kk3 (o_lt hc (by decide)) rfl (by decide) kN_X5_116 rfl rfl dX5_disk_53 ?_
      refine r_iload_n (pc := 56) hc 2 dX5_disk_56 rfl rfl ?_
      refine r_iload_n (pc := 57) hc 3 dX5_disk_57 rfl rfl ?_
      obtain ⟨hs7, hok⟩ := hok
      refine r_callS_i (pc := 58) (as := [.int _, .int _]) hc (c_X5_cell l _ hs7) mS_X5_cell kM_X5_120 ⟨Nat.le_of_ble_eq_true rfl, Nat.le_of_ble_eq_true rfl⟩ ⟨Nat.le_of_ble_eq_true rfl, Nat.le_of_ble_eq_true rfl⟩ rfl rfl (Nat.le_of_ble_eq_true rfl) dX5_disk_58 (fun r σ' h => ?_)
      obtain ⟨rfl, rfl⟩ := h
      refine r_iload_n (pc := 61) hc 4 dX5_disk_61 rfl rfl ?_
      obtain ⟨hs8, hok⟩ := hok
      refine r_callS_v (pc := 62) (as := [.ref (gAd G _), .int _, .int _]) hc (c_X5_put l _ ⟨(by decide), rfl⟩ hs8) mS_X5_put kM_X5_128 ⟨Nat.le_of_ble_eq_true rfl, Nat.le_of_ble_eq_true rfl⟩ ⟨Nat.le_of_ble_eq_true rfl, Nat.le_of_ble_eq_true rfl⟩ rfl rfl (Nat.le_of_ble_eq_true rfl) dX5_disk_62 (fun σ' h => ?_)
      subst h
      refine r_iload (pc := 65) hc 0 dX5_disk_65 rfl ?_
      refine r_bipush (pc := 67) (v := 100) hc dX5_disk_67 (by decide) ?_
      refine r_iadd (pc := 69) hc dX5_disk_69 ?_
      exact r_iret hc hr rfl dX5_disk_70 (hq (_, _) rfl)
    · have hok := hok.2 c16
      have hq := o_qn hq c16
      refine r_iconst (pc := 19) (v := (-1)) hc dX5_disk_19 rfl ?_
      exact r_iret hc hr rfl dX5_disk_20 (hq (_, _) rfl)
noncomputable def f_X5_forget_27  (y0 : Int32) (σ : Sg) : Int32 × Sg :=
  let σ2 := pu σ 1 5 (-1)
  let σ3 := pu σ2 1 6 0
  ((f_X5_toNumber y0 σ), σ3)
def ok_X5_forget_27  (y0 : Int32) (σ : Sg) : Prop :=
  (ok_X5_toNumber y0 σ) ∧ (let σ2 := pu σ 1 5 (-1)
  let σ3 := pu σ2 1 6 0
  True)
noncomputable def f_X5_forget  (σ : Sg) : Int32 × Sg :=
  let σ2 := f_X2_keep σ
  o_ite ((σ2 1 5) = (-1)) (
    f_X5_forget_27 0 σ2) (
    f_X5_forget_27 1 σ2)
def ok_X5_forget  (σ : Sg) : Prop :=
  (ok_X2_keep σ) ∧ (let σ2 := f_X2_keep σ
  (((σ2 1 5) = (-1)) →
    ok_X5_forget_27 0 σ2) ∧ (¬ ((σ2 1 5) = (-1)) →
    ok_X5_forget_27 1 σ2))
set_option maxHeartbeats 4000000 in
set_option maxRecDepth 100000 in
theorem t_X5_forget_27 {p : Program} {l : Launch} {e : Env} {s : State} {m : MethodId} {args : Array Value} {below : List Frame} {meth : Method} {c : Code} {G : Gt} {post : Int32 → Sg → Prop}   (hc : o_Cx p s m args meth c G cX5_forget yX5_forget.cls 2) (hr : meth.sig.returnType = (some .int)) {y0 : Int32} {σ : Sg} (hok : ok_X5_forget_27  y0 σ) (hq : ∀ q : Int32 × Sg, q = f_X5_forget_27  y0 σ → post q.1 q.2) : o_V p l e { frames := 3, cells := 0, slots := 0, locals := 66 } s m args below meth c (MQ below (va_Qi post (fun σ' t => o_W G σ' t.heap) (o_A G)) args s 0 0 (o_A G)) G 0 0 2 σ 27 [(0, .ref (gAd G 0))] [.int y0] := by
  obtain ⟨hs1, hok⟩ := hok
  refine r_callS_i (pc := 27) (as := [.int _]) hc (c_X5_toNumber l _ hs1) mS_X5_toNumber kM_X5_71 ⟨Nat.le_of_ble_eq_true rfl, Nat.le_of_ble_eq_true rfl⟩ ⟨Nat.le_of_ble_eq_true rfl, Nat.le_of_ble_eq_true rfl⟩ rfl rfl (Nat.le_of_ble_eq_true rfl) dX5_forget_27 (fun r σ' h => ?_)
  obtain ⟨rfl, rfl⟩ := h
  refine r_istore_n (pc := 30) (lv' := [(1, _), (0, _)]) hc dX5_forget_30 rfl (by decide) rfl ?_
  refine r_aload_n (pc := 31) hc 1 dX5_forget_31 rfl rfl ?_
  refine r_getr (pc := 32) (j := 1) hc 0 kk5 (o_lt hc (by decide)) rfl (by decide) kF_X5_12 rfl rfl dX5_forget_32 ?_
  refine r_iconst (pc := 35) (v := (-1)) hc dX5_forget_35 rfl ?_
  refine r_putN (pc := 36) hc 5 kk3 (o_lt hc (by decide)) rfl (by decide) kN_X5_88 rfl rfl rfl rfl rfl dX5_forget_36 ?_
  refine r_aload_n (pc := 39) hc 1 dX5_forget_39 rfl rfl ?_
  refine r_getr (pc := 40) (j := 1) hc 0 kk5 (o_lt hc (by decide)) rfl (by decide) kF_X5_12 rfl rfl dX5_forget_40 ?_
  refine r_iconst (pc := 43) (v := 0) hc dX5_forget_43 rfl ?_
  refine r_putN (pc := 44) hc 6 kk3 (o_lt hc (by decide)) rfl (by decide) kN_X5_91 rfl rfl rfl rfl rfl dX5_forget_44 ?_
  refine r_iload_n (pc := 47) hc 0 dX5_forget_47 rfl rfl ?_
  exact r_iret hc hr rfl dX5_forget_48 (hq (_, _) rfl)
set_option maxHeartbeats 4000000 in
set_option maxRecDepth 100000 in
theorem c_X5_forget (l : Launch) (G : Gt)   {σ : Sg} (hok : ok_X5_forget  σ) : o_Ci l G yX5_forget cX5_forget 2 (some .int) 3 66 [.ref (gAd G 0)] σ (fun r σ' => r = (f_X5_forget  σ).1 ∧ σ' = (f_X5_forget  σ).2) := by
  refine o_Ci.of (by decide +kernel) (Nat.le_of_ble_eq_true rfl) ?_
  intro p e s m args below meth c hc hr
  have hq : ∀ q : Int32 × Sg, q = f_X5_forget  σ → (fun r σ' => r = (f_X5_forget  σ).1 ∧ σ' = (f_X5_forget  σ).2) q.1 q.2 := fun q h => ⟨congrArg Prod.fst h, congrArg Prod.snd h⟩
  refine r_aload_n (pc := 0) hc 0 dX5_forget_0 rfl rfl ?_
  refine r_getr (pc := 1) (j := 6) hc 1 kk5 (o_lt hc (by decide)) rfl (by decide) kF_X5_19 rfl rfl dX5_forget_1 ?_
  refine r_aload_n (pc := 4) hc 0 dX5_forget_4 rfl rfl ?_
  refine r_getr (pc := 5) (j := 1) hc 0 kk5 (o_lt hc (by decide)) rfl (by decide) kF_X5_12 rfl rfl dX5_forget_5 ?_
  obtain ⟨hs1, hok⟩ := hok
  refine r_callVN_v (pc := 8) (as := [.ref (gAd G _)]) hc (c_X2_keep l _ hs1) kk2 (o_lt hc (by decide)) rfl mV_X2_keep kN_X5_53 ⟨Nat.le_of_ble_eq_true rfl, Nat.le_of_ble_eq_true rfl⟩ ⟨Nat.le_of_ble_eq_true rfl, Nat.le_of_ble_eq_true rfl⟩ rfl rfl (Nat.le_of_ble_eq_true rfl) dX5_forget_8 (fun σ' h => ?_)
  subst h
  refine r_aload_n (pc := 11) hc 0 dX5_forget_11 rfl rfl ?_
  refine r_getr (pc := 12) (j := 1) hc 0 kk5 (o_lt hc (by decide)) rfl (by decide) kF_X5_12 rfl rfl dX5_forget_12 ?_
  refine r_getiN (pc := 15) hc 5 kk3 (o_lt hc (by decide)) rfl (by decide) kN_X5_88 rfl rfl dX5_forget_15 ?_
  refine r_iconst (pc := 18) (v := (-1)) hc dX5_forget_18 rfl ?_
  refine r_icmp_eq (pc := 19) (tgt := 26) hc dX5_forget_19 (by decide) (fun c19 => ?_) (fun c19 => ?_)
  · have hok := hok.1 c19
    have hq := o_qp hq c19
    refine r_iconst (pc := 26) (v := 0) hc dX5_forget_26 rfl ?_
    exact o_V.sub (t_X5_forget_27  hc hr hok hq) [0] rfl
  · have hok := hok.2 c19
    have hq := o_qn hq c19
    refine r_iconst (pc := 22) (v := 1) hc dX5_forget_22 rfl ?_
    refine r_goto (pc := 23) (tgt := 27) hc dX5_forget_23 (by decide) ?_
    exact o_V.sub (t_X5_forget_27  hc hr hok hq) [0] rfl
noncomputable def f_X5_noise (p1 : Int32) (p2 : Int32) (σ : Sg) : Int32 × Sg :=
  o_ite ((f_X5_isTrack p1 σ) = 0) (
    ((-1), σ)) (
    o_ite ((f_X5_isOutside p2 (-9) 9 σ) = 0) (
      let σ4 := f_X2_keep σ
      let σ7 := f_X5_put 4 p1 p2 σ4
      (((f_X5_at 4 p1 σ4) + 100), σ7)) (
      ((-1), σ)))
def ok_X5_noise (p1 : Int32) (p2 : Int32) (σ : Sg) : Prop :=
  (ok_X5_isTrack p1 σ) ∧ ((((f_X5_isTrack p1 σ) = 0) →
    True) ∧ (¬ ((f_X5_isTrack p1 σ) = 0) →
    (ok_X5_isOutside p2 (-9) 9 σ) ∧ ((((f_X5_isOutside p2 (-9) 9 σ) = 0) →
      (ok_X2_keep σ) ∧ (let σ4 := f_X2_keep σ
      (ok_X5_at 4 p1 σ4) ∧ ((ok_X5_put 4 p1 p2 σ4) ∧ (let σ7 := f_X5_put 4 p1 p2 σ4
      True)))) ∧ (¬ ((f_X5_isOutside p2 (-9) 9 σ) = 0) →
      True))))
set_option maxHeartbeats 4000000 in
set_option maxRecDepth 100000 in
theorem c_X5_noise (l : Launch) (G : Gt) {p1 : Int32} {p2 : Int32}  {σ : Sg} (hok : ok_X5_noise p1 p2 σ) : o_Ci l G yX5_noise cX5_noise 4 (some .int) 3 66 [.ref (gAd G 0), .int p1, .int p2] σ (fun r σ' => r = (f_X5_noise p1 p2 σ).1 ∧ σ' = (f_X5_noise p1 p2 σ).2) := by
  refine o_Ci.of (by decide +kernel) (Nat.le_of_ble_eq_true rfl) ?_
  intro p e s m args below meth c hc hr
  have hq : ∀ q : Int32 × Sg, q = f_X5_noise p1 p2 σ → (fun r σ' => r = (f_X5_noise p1 p2 σ).1 ∧ σ' = (f_X5_noise p1 p2 σ).2) q.1 q.2 := fun q h => ⟨congrArg Prod.fst h, congrArg Prod.snd h⟩
  refine r_iload_n (pc := 0) hc 1 dX5_noise_0 rfl rfl ?_
  obtain ⟨hs1, hok⟩ := hok
  refine r_callS_i (pc := 1) (as := [.int _]) hc (c_X5_isTrack l _ hs1) mS_X5_isTrack kM_X5_132 ⟨Nat.le_of_ble_eq_true rfl, Nat.le_of_ble_eq_true rfl⟩ ⟨Nat.le_of_ble_eq_true rfl, Nat.le_of_ble_eq_true rfl⟩ rfl rfl (Nat.le_of_ble_eq_true rfl) dX5_noise_1 (fun r σ' h => ?_)
  obtain ⟨rfl, rfl⟩ := h
  refine r_if_eq (pc := 4) (tgt := 18) hc dX5_noise_4 (by decide) (fun c4 => ?_) (fun c4 => ?_)
  · have hok := hok.1 c4
    have hq := o_qp hq c4
    refine r_iconst (pc := 18) (v := (-1)) hc dX5_noise_18 rfl ?_
    exact r_iret hc hr rfl dX5_noise_19 (hq (_, _) rfl)
  · have hok := hok.2 c4
    have hq := o_qn hq c4
    refine r_iload_n (pc := 7) hc 2 dX5_noise_7 rfl rfl ?_
    refine r_bipush (pc := 8) (v := (-9)) hc dX5_noise_8 (by decide) ?_
    refine r_bipush (pc := 10) (v := 9) hc dX5_noise_10 (by decide) ?_
    obtain ⟨hs2, hok⟩ := hok
    refine r_callS_i (pc := 12) (as := [.int _, .int _, .int _]) hc (c_X5_isOutside l _ hs2) mS_X5_isOutside kM_X5_44 ⟨Nat.le_of_ble_eq_true rfl, Nat.le_of_ble_eq_true rfl⟩ ⟨Nat.le_of_ble_eq_true rfl, Nat.le_of_ble_eq_true rfl⟩ rfl rfl (Nat.le_of_ble_eq_true rfl) dX5_noise_12 (fun r σ' h => ?_)
    obtain ⟨rfl, rfl⟩ := h
    refine r_if_eq (pc := 15) (tgt := 20) hc dX5_noise_15 (by decide) (fun c15 => ?_) (fun c15 => ?_)
    · have hok := hok.1 c15
      have hq := o_qp hq c15
      refine r_aload_n (pc := 20) hc 0 dX5_noise_20 rfl rfl ?_
      refine r_getr (pc := 21) (j := 6) hc 1 kk5 (o_lt hc (by decide)) rfl (by decide) kF_X5_19 rfl rfl dX5_noise_21 ?_
      refine r_aload_n (pc := 24) hc 0 dX5_noise_24 rfl rfl ?_
      refine r_getr (pc := 25) (j := 1) hc 0 kk5 (o_lt hc (by decide)) rfl (by decide) kF_X5_12 rfl rfl dX5_noise_25 ?_
      obtain ⟨hs3, hok⟩ := hok
      refine r_callVN_v (pc := 28) (as := [.ref (gAd G _)]) hc (c_X2_keep l _ hs3) kk2 (o_lt hc (by decide)) rfl mV_X2_keep kN_X5_53 ⟨Nat.le_of_ble_eq_true rfl, Nat.le_of_ble_eq_true rfl⟩ ⟨Nat.le_of_ble_eq_true rfl, Nat.le_of_ble_eq_true rfl⟩ rfl rfl (Nat.le_of_ble_eq_true rfl) dX5_noise_28 (fun σ' h => ?_)
      subst h
      refine r_aload_n (pc := 31) hc 0 dX5_noise_31 rfl rfl ?_
      refine r_getr (pc := 32) (j := 1) hc 0 kk5 (o_lt hc (by decide)) rfl (by decide) kF_X5_12 rfl rfl dX5_noise_32 ?_
      refine r_getrN (pc := 35) (j := 4) hc 9 kk3 (o_lt hc (by decide)) rfl (by decide) kN_X5_136 rfl rfl dX5_noise_35 ?_
      refine r_iload_n (pc := 38) hc 1 dX5_noise_38 rfl rfl ?_
      obtain ⟨hs5, hok⟩ := hok
      refine r_callS_i (pc := 39) (as := [.ref (gAd G _), .int _]) hc (c_X5_at l _ (Or.inl ⟨by decide, rfl⟩) hs5) mS_X5_at kM_X5_124 ⟨Nat.le_of_ble_eq_true rfl, Nat.le_of_ble_eq_true rfl⟩ ⟨Nat.le_of_ble_eq_true rfl, Nat.le_of_ble_eq_true rfl⟩ rfl rfl (Nat.le_of_ble_eq_true rfl) dX5_noise_39 (fun r σ' h => ?_)
      obtain ⟨rfl, rfl⟩ := h
      refine r_istore_n (pc := 42) (lv' := [(3, _), (0, _), (1, _), (2, _)]) hc dX5_noise_42 rfl (by decide) rfl ?_
      refine r_aload_n (pc := 43) hc 1 dX5_noise_43 rfl rfl ?_
      refine r_getr (pc := 44) (j := 1) hc 0 kk5 (o_lt hc (by decide)) rfl (by decide) kF_X5_12 rfl rfl dX5_noise_44 ?_
      refine r_getrN (pc := 47) (j := 4) hc 9 kk3 (o_lt hc (by decide)) rfl (by decide) kN_X5_136 rfl rfl dX5_noise_47 ?_
      refine r_iload_n (pc := 50) hc 2 dX5_noise_50 rfl rfl ?_
      refine r_iload_n (pc := 51) hc 3 dX5_noise_51 rfl rfl ?_
      obtain ⟨hs6, hok⟩ := hok
      refine r_callS_v (pc := 52) (as := [.ref (gAd G _), .int _, .int _]) hc (c_X5_put l _ ⟨(by decide), rfl⟩ hs6) mS_X5_put kM_X5_128 ⟨Nat.le_of_ble_eq_true rfl, Nat.le_of_ble_eq_true rfl⟩ ⟨Nat.le_of_ble_eq_true rfl, Nat.le_of_ble_eq_true rfl⟩ rfl rfl (Nat.le_of_ble_eq_true rfl) dX5_noise_52 (fun σ' h => ?_)
      subst h
      refine r_iload_n (pc := 55) hc 0 dX5_noise_55 rfl rfl ?_
      refine r_bipush (pc := 56) (v := 100) hc dX5_noise_56 (by decide) ?_
      refine r_iadd (pc := 58) hc dX5_noise_58 ?_
      exact r_iret hc hr rfl dX5_noise_59 (hq (_, _) rfl)
    · have hok := hok.2 c15
      have hq := o_qn hq c15
      refine r_iconst (pc := 18) (v := (-1)) hc dX5_noise_18 rfl ?_
      exact r_iret hc hr rfl dX5_noise_19 (hq (_, _) rfl)
noncomputable def f_X5_power_47  (x2 : Int32) (y0 : Int32) (σ : Sg) : Int32 × Sg :=
  let σ2 := pu σ 1 2 y0
  (x2, σ2)
def ok_X5_power_47  (x2 : Int32) (y0 : Int32) (σ : Sg) : Prop :=
  (narrow .boolean (.int y0) = .int y0 ∧ fits .boolean (.int y0) = true) ∧ (let σ2 := pu σ 1 2 y0
  True)
noncomputable def f_X5_power (p1 : Int32) (σ : Sg) : Int32 × Sg :=
  o_ite ((f_X5_isOutside p1 0 1 σ) = 0) (
    let σ3 := f_X2_keep σ
    o_ite (p1 = 1) (
      f_X5_power_47 (f_X5_toNumber (σ3 1 2) σ3) 1 σ3) (
      f_X5_power_47 (f_X5_toNumber (σ3 1 2) σ3) 0 σ3)) (
    ((-1), σ))
def ok_X5_power (p1 : Int32) (σ : Sg) : Prop :=
  (ok_X5_isOutside p1 0 1 σ) ∧ ((((f_X5_isOutside p1 0 1 σ) = 0) →
    (ok_X2_keep σ) ∧ (let σ3 := f_X2_keep σ
    (ok_X5_toNumber (σ3 1 2) σ3) ∧ (((p1 = 1) →
      ok_X5_power_47 (f_X5_toNumber (σ3 1 2) σ3) 1 σ3) ∧ (¬ (p1 = 1) →
      ok_X5_power_47 (f_X5_toNumber (σ3 1 2) σ3) 0 σ3)))) ∧ (¬ ((f_X5_isOutside p1 0 1 σ) = 0) →
    True))
set_option maxHeartbeats 4000000 in
set_option maxRecDepth 100000 in
theorem t_X5_power_47 {p : Program} {l : Launch} {e : Env} {s : State} {m : MethodId} {args : Array Value} {below : List Frame} {meth : Method} {c : Code} {G : Gt} {post : Int32 → Sg → Prop}   (hc : o_Cx p s m args meth c G cX5_power yX5_power.cls 3) (hr : meth.sig.returnType = (some .int)) {x2 : Int32} {y0 : Int32} {σ : Sg} (hok : ok_X5_power_47  x2 y0 σ) (hq : ∀ q : Int32 × Sg, q = f_X5_power_47  x2 y0 σ → post q.1 q.2) : o_V p l e { frames := 3, cells := 0, slots := 0, locals := 66 } s m args below meth c (MQ below (va_Qi post (fun σ' t => o_W G σ' t.heap) (o_A G)) args s 0 0 (o_A G)) G 0 0 3 σ 47 [(2, .int x2)] [.int y0, .ref (gAd G 1)] := by
  obtain ⟨hs1, hok⟩ := hok
  refine r_putN (pc := 47) hc 2 kk3 (o_lt hc (by decide)) rfl (by decide) kN_X5_67 rfl rfl rfl hs1.1 hs1.2 dX5_power_47 ?_
  refine r_iload_n (pc := 50) hc 0 dX5_power_50 rfl rfl ?_
  exact r_iret hc hr rfl dX5_power_51 (hq (_, _) rfl)
set_option maxHeartbeats 4000000 in
set_option maxRecDepth 100000 in
theorem c_X5_power (l : Launch) (G : Gt) {p1 : Int32}  {σ : Sg} (hok : ok_X5_power p1 σ) : o_Ci l G yX5_power cX5_power 3 (some .int) 3 66 [.ref (gAd G 0), .int p1] σ (fun r σ' => r = (f_X5_power p1 σ).1 ∧ σ' = (f_X5_power p1 σ).2) := by
  refine o_Ci.of (by decide +kernel) (Nat.le_of_ble_eq_true rfl) ?_
  intro p e s m args below meth c hc hr
  have hq : ∀ q : Int32 × Sg, q = f_X5_power p1 σ → (fun r σ' => r = (f_X5_power p1 σ).1 ∧ σ' = (f_X5_power p1 σ).2) q.1 q.2 := fun q h => ⟨congrArg Prod.fst h, congrArg Prod.snd h⟩
  refine r_iload_n (pc := 0) hc 1 dX5_power_0 rfl rfl ?_
  refine r_iconst (pc := 1) (v := 0) hc dX5_power_1 rfl ?_
  refine r_iconst (pc := 2) (v := 1) hc dX5_power_2 rfl ?_
  obtain ⟨hs1, hok⟩ := hok
  refine r_callS_i (pc := 3) (as := [.int _, .int _, .int _]) hc (c_X5_isOutside l _ hs1) mS_X5_isOutside kM_X5_44 ⟨Nat.le_of_ble_eq_true rfl, Nat.le_of_ble_eq_true rfl⟩ ⟨Nat.le_of_ble_eq_true rfl, Nat.le_of_ble_eq_true rfl⟩ rfl rfl (Nat.le_of_ble_eq_true rfl) dX5_power_3 (fun r σ' h => ?_)
  obtain ⟨rfl, rfl⟩ := h
  refine r_if_eq (pc := 6) (tgt := 11) hc dX5_power_6 (by decide) (fun c6 => ?_) (fun c6 => ?_)
  · have hok := hok.1 c6
    have hq := o_qp hq c6
    refine r_aload_n (pc := 11) hc 0 dX5_power_11 rfl rfl ?_
    refine r_getr (pc := 12) (j := 6) hc 1 kk5 (o_lt hc (by decide)) rfl (by decide) kF_X5_19 rfl rfl dX5_power_12 ?_
    refine r_aload_n (pc := 15) hc 0 dX5_power_15 rfl rfl ?_
    refine r_getr (pc := 16) (j := 1) hc 0 kk5 (o_lt hc (by decide)) rfl (by decide) kF_X5_12 rfl rfl dX5_power_16 ?_
    obtain ⟨hs2, hok⟩ := hok
    refine r_callVN_v (pc := 19) (as := [.ref (gAd G _)]) hc (c_X2_keep l _ hs2) kk2 (o_lt hc (by decide)) rfl mV_X2_keep kN_X5_53 ⟨Nat.le_of_ble_eq_true rfl, Nat.le_of_ble_eq_true rfl⟩ ⟨Nat.le_of_ble_eq_true rfl, Nat.le_of_ble_eq_true rfl⟩ rfl rfl (Nat.le_of_ble_eq_true rfl) dX5_power_19 (fun σ' h => ?_)
    subst h
    refine r_aload_n (pc := 22) hc 0 dX5_power_22 rfl rfl ?_
    refine r_getr (pc := 23) (j := 1) hc 0 kk5 (o_lt hc (by decide)) rfl (by decide) kF_X5_12 rfl rfl dX5_power_23 ?_
    refine r_getiN (pc := 26) hc 2 kk3 (o_lt hc (by decide)) rfl (by decide) kN_X5_67 rfl rfl dX5_power_26 ?_
    obtain ⟨hs4, hok⟩ := hok
    refine r_callS_i (pc := 29) (as := [.int _]) hc (c_X5_toNumber l _ hs4) mS_X5_toNumber kM_X5_71 ⟨Nat.le_of_ble_eq_true rfl, Nat.le_of_ble_eq_true rfl⟩ ⟨Nat.le_of_ble_eq_true rfl, Nat.le_of_ble_eq_true rfl⟩ rfl rfl (Nat.le_of_ble_eq_true rfl) dX5_power_29 (fun r σ' h => ?_)
    obtain ⟨rfl, rfl⟩ := h
    refine r_istore_n (pc := 32) (lv' := [(2, _), (0, _), (1, _)]) hc dX5_power_32 rfl (by decide) rfl ?_
    refine r_aload_n (pc := 33) hc 1 dX5_power_33 rfl rfl ?_
    refine r_getr (pc := 34) (j := 1) hc 0 kk5 (o_lt hc (by decide)) rfl (by decide) kF_X5_12 rfl rfl dX5_power_34 ?_
    refine r_iload_n (pc := 37) hc 2 dX5_power_37 rfl rfl ?_
    refine r_iconst (pc := 38) (v := 1) hc dX5_power_38 rfl ?_
    refine r_icmp_ne (pc := 39) (tgt := 46) hc dX5_power_39 (by decide) (fun c39 => ?_) (fun c39 => ?_)
    · have hok := hok.2 c39
      have hq := o_qn hq c39
      refine r_iconst (pc := 46) (v := 0) hc dX5_power_46 rfl ?_
      exact o_V.sub (t_X5_power_47  hc hr hok hq) [0] rfl
    · have hok := hok.1 c39
      have hq := o_qp hq c39
      refine r_iconst (pc := 42) (v := 1) hc dX5_power_42 rfl ?_
      refine r_goto (pc := 43) (tgt := 47) hc dX5_power_43 (by decide) ?_
      exact o_V.sub (t_X5_power_47  hc hr hok hq) [0] rfl
  · have hok := hok.2 c6
    have hq := o_qn hq c6
    refine r_iconst (pc := 9) (v := (-1)) hc dX5_power_9 rfl ?_
    exact r_iret hc hr rfl dX5_power_10 (hq (_, _) rfl)
noncomputable def f_X5_set (p1 : Int32) (p2 : Int32) (σ : Sg) : Int32 × Sg :=
  o_ite ((f_X5_isOutside p1 0 3 σ) = 0) (
    let r5 := f_X5_isOutside p2 (f_X5_at 42 p1 σ) (f_X5_at 43 p1 σ) σ
    o_ite (r5 = 0) (
      let σ7 := f_X2_keep σ
      let σ10 := f_X5_put 2 p1 p2 σ7
      ((f_X5_shownSetting p1 σ7), σ10)) (
      ((-1), σ))) (
    ((-1), σ))
def ok_X5_set (p1 : Int32) (p2 : Int32) (σ : Sg) : Prop :=
  (ok_X5_isOutside p1 0 3 σ) ∧ ((((f_X5_isOutside p1 0 3 σ) = 0) →
    (ok_X5_at 42 p1 σ) ∧ ((ok_X5_at 43 p1 σ) ∧ ((ok_X5_isOutside p2 (f_X5_at 42 p1 σ) (f_X5_at 43 p1 σ) σ) ∧ (let r5 := f_X5_isOutside p2 (f_X5_at 42 p1 σ) (f_X5_at 43 p1 σ) σ
    ((r5 = 0) →
      (ok_X2_keep σ) ∧ (let σ7 := f_X2_keep σ
      (ok_X5_shownSetting p1 σ7) ∧ ((ok_X5_put 2 p1 p2 σ7) ∧ (let σ10 := f_X5_put 2 p1 p2 σ7
      True)))) ∧ (¬ (r5 = 0) →
      True))))) ∧ (¬ ((f_X5_isOutside p1 0 3 σ) = 0) →
    True))
set_option maxHeartbeats 4000000 in
set_option maxRecDepth 100000 in
theorem c_X5_set (l : Launch) (G : Gt) {p1 : Int32} {p2 : Int32}  {σ : Sg} (hok : ok_X5_set p1 p2 σ) : o_Ci l G yX5_set cX5_set 4 (some .int) 3 66 [.ref (gAd G 0), .int p1, .int p2] σ (fun r σ' => r = (f_X5_set p1 p2 σ).1 ∧ σ' = (f_X5_set p1 p2 σ).2) := by
  refine o_Ci.of (by decide +kernel) (Nat.le_of_ble_eq_true rfl) ?_
  intro p e s m args below meth c hc hr
  have hq : ∀ q : Int32 × Sg, q = f_X5_set p1 p2 σ → (fun r σ' => r = (f_X5_set p1 p2 σ).1 ∧ σ' = (f_X5_set p1 p2 σ).2) q.1 q.2 := fun q h => ⟨congrArg Prod.fst h, congrArg Prod.snd h⟩
  refine r_iload_n (pc := 0) hc 1 dX5_set_0 rfl rfl ?_
  refine r_iconst (pc := 1) (v := 0) hc dX5_set_1 rfl ?_
  refine r_iconst (pc := 2) (v := 3) hc dX5_set_2 rfl ?_
  obtain ⟨hs1, hok⟩ := hok
  refine r_callS_i (pc := 3) (as := [.int _, .int _, .int _]) hc (c_X5_isOutside l _ hs1) mS_X5_isOutside kM_X5_44 ⟨Nat.le_of_ble_eq_true rfl, Nat.le_of_ble_eq_true rfl⟩ ⟨Nat.le_of_ble_eq_true rfl, Nat.le_of_ble_eq_true rfl⟩ rfl rfl (Nat.le_of_ble_eq_true rfl) dX5_set_3 (fun r σ' h => ?_)
  obtain ⟨rfl, rfl⟩ := h
  refine r_if_ne (pc := 6) (tgt := 30) hc dX5_set_6 (by decide) (fun c6 => ?_) (fun c6 => ?_)
  · have hok := hok.2 c6
    have hq := o_qn hq c6
    refine r_iconst (pc := 30) (v := (-1)) hc dX5_set_30 rfl ?_
    exact r_iret hc hr rfl dX5_set_31 (hq (_, _) rfl)
  · have hok := hok.1 c6
    have hq := o_qp hq c6
    refine r_iload_n (pc := 9) hc 2 dX5_set_9 rfl rfl ?_
    refine r_gets (pc := 10) hc 42 (by decide) (by decide) rfl kF_X5_139 dX5_set_10 ?_
    refine r_iload_n (pc := 13) hc 1 dX5_set_13 rfl rfl ?_
    obtain ⟨hs2, hok⟩ := hok
    refine r_callS_i (pc := 14) (as := [.ref (gAd G _), .int _]) hc (c_X5_at l _ (Or.inr ⟨by decide, by decide⟩) hs2) mS_X5_at kM_X5_124 ⟨Nat.le_of_ble_eq_true rfl, Nat.le_of_ble_eq_true rfl⟩ ⟨Nat.le_of_ble_eq_true rfl, Nat.le_of_ble_eq_true rfl⟩ rfl rfl (Nat.le_of_ble_eq_true rfl) dX5_set_14 (fun r σ' h => ?_)
    obtain ⟨rfl, rfl⟩ := h
    refine r_gets (pc := 17) hc 43 (by decide) (by decide) rfl kF_X5_142 dX5_set_17 ?_
    refine r_iload_n (pc := 20) hc 1 dX5_set_20 rfl rfl ?_
    obtain ⟨hs3, hok⟩ := hok
    refine r_callS_i (pc := 21) (as := [.ref (gAd G _), .int _]) hc (c_X5_at l _ (Or.inr ⟨by decide, by decide⟩) hs3) mS_X5_at kM_X5_124 ⟨Nat.le_of_ble_eq_true rfl, Nat.le_of_ble_eq_true rfl⟩ ⟨Nat.le_of_ble_eq_true rfl, Nat.le_of_ble_eq_true rfl⟩ rfl rfl (Nat.le_of_ble_eq_true rfl) dX5_set_21 (fun r σ' h => ?_)
    obtain ⟨rfl, rfl⟩ := h
    obtain ⟨hs4, hok⟩ := hok
    refine r_callS_i (pc := 24) (as := [.int _, .int _, .int _]) hc (c_X5_isOutside l _ hs4) mS_X5_isOutside kM_X5_44 ⟨Nat.le_of_ble_eq_true rfl, Nat.le_of_ble_eq_true rfl⟩ ⟨Nat.le_of_ble_eq_true rfl, Nat.le_of_ble_eq_true rfl⟩ rfl rfl (Nat.le_of_ble_eq_true rfl) dX5_set_24 (fun r σ' h => ?_)
    obtain ⟨rfl, rfl⟩ := h
    refine r_if_eq (pc := 27) (tgt := 32) hc dX5_set_27 (by decide) (fun c27 => ?_) (fun c27 => ?_)
    · have hok := hok.1 c27
      have hq := o_qp hq c27
      refine r_aload_n (pc := 32) hc 0 dX5_set_32 rfl rfl ?_
      refine r_getr (pc := 33) (j := 6) hc 1 kk5 (o_lt hc (by decide)) rfl (by decide) kF_X5_19 rfl rfl dX5_set_33 ?_
      refine r_aload_n (pc := 36) hc 0 dX5_set_36 rfl rfl ?_
      refine r_getr (pc := 37) (j := 1) hc 0 kk5 (o_lt hc (by decide)) rfl (by decide) kF_X5_12 rfl rfl dX5_set_37 ?_
      obtain ⟨hs6, hok⟩ := hok
      refine r_callVN_v (pc := 40) (as := [.ref (gAd G _)]) hc (c_X2_keep l _ hs6) kk2 (o_lt hc (by decide)) rfl mV_X2_keep kN_X5_53 ⟨Nat.le_of_ble_eq_true rfl, Nat.le_of_ble_eq_true rfl⟩ ⟨Nat.le_of_ble_eq_true rfl, Nat.le_of_ble_eq_true rfl⟩ rfl rfl (Nat.le_of_ble_eq_true rfl) dX5_set_40 (fun σ' h => ?_)
      subst h
      refine r_aload_n (pc := 43) hc 0 dX5_set_43 rfl rfl ?_
      refine r_iload_n (pc := 44) hc 1 dX5_set_44 rfl rfl ?_
      obtain ⟨hs8, hok⟩ := hok
      refine r_callV_i (pc := 45) (as := [.int _]) hc (c_X5_shownSetting l _ hs8) kk5 (o_lt hc (by decide)) rfl mV_X5_shownSetting kM_X5_145 ⟨Nat.le_of_ble_eq_true rfl, Nat.le_of_ble_eq_true rfl⟩ ⟨Nat.le_of_ble_eq_true rfl, Nat.le_of_ble_eq_true rfl⟩ rfl rfl (Nat.le_of_ble_eq_true rfl) dX5_set_45 (fun r σ' h => ?_)
      obtain ⟨rfl, rfl⟩ := h
      refine r_istore_n (pc := 48) (lv' := [(3, _), (0, _), (1, _), (2, _)]) hc dX5_set_48 rfl (by decide) rfl ?_
      refine r_aload_n (pc := 49) hc 1 dX5_set_49 rfl rfl ?_
      refine r_getr (pc := 50) (j := 1) hc 0 kk5 (o_lt hc (by decide)) rfl (by decide) kF_X5_12 rfl rfl dX5_set_50 ?_
      refine r_getrN (pc := 53) (j := 2) hc 7 kk3 (o_lt hc (by decide)) rfl (by decide) kN_X5_148 rfl rfl dX5_set_53 ?_
      refine r_iload_n (pc := 56) hc 2 dX5_set_56 rfl rfl ?_
      refine r_iload_n (pc := 57) hc 3 dX5_set_57 rfl rfl ?_
      obtain ⟨hs9, hok⟩ := hok
      refine r_callS_v (pc := 58) (as := [.ref (gAd G _), .int _, .int _]) hc (c_X5_put l _ ⟨(by decide), rfl⟩ hs9) mS_X5_put kM_X5_128 ⟨Nat.le_of_ble_eq_true rfl, Nat.le_of_ble_eq_true rfl⟩ ⟨Nat.le_of_ble_eq_true rfl, Nat.le_of_ble_eq_true rfl⟩ rfl rfl (Nat.le_of_ble_eq_true rfl) dX5_set_58 (fun σ' h => ?_)
      subst h
      refine r_iload_n (pc := 61) hc 0 dX5_set_61 rfl rfl ?_
      exact r_iret hc hr rfl dX5_set_62 (hq (_, _) rfl)
    · have hok := hok.2 c27
      have hq := o_qn hq c27
      refine r_iconst (pc := 30) (v := (-1)) hc dX5_set_30 rfl ?_
      exact r_iret hc hr rfl dX5_set_31 (hq (_, _) rfl)
noncomputable def f_X5_apart  (σ : Sg) : Int32 :=
  o_ite ((σ 1 5) = (-1)) (
    (-4)) (
    (f_X5_distance (σ 1 5) (σ 1 0) 65280 σ))
def ok_X5_apart  (σ : Sg) : Prop :=
  (((σ 1 5) = (-1)) →
    True) ∧ (¬ ((σ 1 5) = (-1)) →
    (ok_X5_distance (σ 1 5) (σ 1 0) 65280 σ) ∧ (True))
set_option maxHeartbeats 4000000 in
set_option maxRecDepth 100000 in
theorem c_X5_apart (l : Launch) (G : Gt)   {σ : Sg} (hok : ok_X5_apart  σ) : o_Ci l G yX5_apart cX5_apart 1 (some .int) 2 44 [.ref (gAd G 0)] σ (fun r σ' => r = f_X5_apart  σ ∧ σ' = σ) := by
  refine o_Ci.of (by decide +kernel) (Nat.le_of_ble_eq_true rfl) ?_
  intro p e s m args below meth c hc hr
  have hq : ∀ q : Int32, q = f_X5_apart  σ → (fun r σ' => r = f_X5_apart  σ ∧ σ' = σ) q σ := fun q h => ⟨h, rfl⟩
  refine r_aload_n (pc := 0) hc 0 dX5_apart_0 rfl rfl ?_
  refine r_getr (pc := 1) (j := 1) hc 0 kk5 (o_lt hc (by decide)) rfl (by decide) kF_X5_12 rfl rfl dX5_apart_1 ?_
  refine r_getiN (pc := 4) hc 5 kk3 (o_lt hc (by decide)) rfl (by decide) kN_X5_88 rfl rfl dX5_apart_4 ?_
  refine r_iconst (pc := 7) (v := (-1)) hc dX5_apart_7 rfl ?_
  refine r_icmp_ne (pc := 8) (tgt := 16) hc dX5_apart_8 (by decide) (fun c8 => ?_) (fun c8 => ?_)
  · have hok := hok.2 c8
    have hq := o_qn hq c8
    refine r_aload_n (pc := 16) hc 0 dX5_apart_16 rfl rfl ?_
    refine r_getr (pc := 17) (j := 1) hc 0 kk5 (o_lt hc (by decide)) rfl (by decide) kF_X5_12 rfl rfl dX5_apart_17 ?_
    refine r_getiN (pc := 20) hc 5 kk3 (o_lt hc (by decide)) rfl (by decide) kN_X5_88 rfl rfl dX5_apart_20 ?_
    refine r_aload_n (pc := 23) hc 0 dX5_apart_23 rfl rfl ?_
    refine r_getr (pc := 24) (j := 1) hc 0 kk5 (o_lt hc (by decide)) rfl (by decide) kF_X5_12 rfl rfl dX5_apart_24 ?_
    refine r_getiN (pc := 27) hc 0 kk3 (o_lt hc (by decide)) rfl (by decide) kN_X5_48 rfl rfl dX5_apart_27 ?_
    refine r_ldc (pc := 30) (v := 65280) hc kK_X5_213 dX5_apart_30 ?_
    obtain ⟨hs1, hok⟩ := hok
    refine r_callS_i (pc := 32) (as := [.int _, .int _, .int _]) hc (c_X5_distance l _ hs1) mS_X5_distance kM_X5_214 ⟨Nat.le_of_ble_eq_true rfl, Nat.le_of_ble_eq_true rfl⟩ ⟨Nat.le_of_ble_eq_true rfl, Nat.le_of_ble_eq_true rfl⟩ rfl rfl (Nat.le_of_ble_eq_true rfl) dX5_apart_32 (fun r σ' h => ?_)
    obtain ⟨rfl, rfl⟩ := h
    exact r_iret hc hr rfl dX5_apart_35 (hq _ rfl)
  · have hok := hok.1 c8
    have hq := o_qp hq c8
    refine r_bipush (pc := 11) (v := (-4)) hc dX5_apart_11 (by decide) ?_
    refine r_goto (pc := 13) (tgt := 35) hc dX5_apart_13 (by decide) ?_
    exact r_iret hc hr rfl dX5_apart_35 (hq _ rfl)
noncomputable def f_X5_poor_4  : Nat → Int32 → Int32 → Sg → Int32
  | 0 => fun _ _ σ => 0
  | n + 1 => fun x1 x2 σ =>
    o_ite (8 ≤ x2) (
      x1) (
      o_ite ((f_X3_isPoor x2 σ) = 0) (
        f_X5_poor_4 n x1 (x2 + 1) σ) (
        f_X5_poor_4 n (x1 + 1) (x2 + 1) σ))
def ok_X5_poor_4  : Nat → Int32 → Int32 → Sg → Prop
  | 0 => fun _ _ _ => False
  | n + 1 => fun x1 x2 σ =>
    ((8 ≤ x2) →
      True) ∧ (¬ (8 ≤ x2) →
      (ok_X3_isPoor x2 σ) ∧ ((((f_X3_isPoor x2 σ) = 0) →
        ok_X5_poor_4  n x1 (x2 + 1) σ) ∧ (¬ ((f_X3_isPoor x2 σ) = 0) →
        ok_X5_poor_4  n (x1 + 1) (x2 + 1) σ)))
noncomputable def f_X5_poor  (σ : Sg) : Int32 :=
  f_X5_poor_4  oF 0 0 σ
def ok_X5_poor  (σ : Sg) : Prop :=
  ok_X5_poor_4  oF 0 0 σ
set_option maxHeartbeats 4000000 in
set_option maxRecDepth 100000 in
theorem t_X5_poor_4 {p : Program} {l : Launch} {e : Env} {s : State} {m : MethodId} {args : Array Value} {below : List Frame} {meth : Method} {c : Code} {G : Gt} {post : Int32 → Sg → Prop}   (hc : o_Cx p s m args meth c G cX5_poor yX5_poor.cls 3) (hr : meth.sig.returnType = (some .int)) : ∀ (n : Nat) (x1 : Int32) (x2 : Int32) (σ : Sg) (hok : ok_X5_poor_4  n x1 x2 σ) (hq : ∀ q : Int32, q = f_X5_poor_4  n x1 x2 σ → post q σ), o_V p l e { frames := 2, cells := 0, slots := 0, locals := 45 } s m args below meth c (MQ below (va_Qi post (fun σ' t => o_W G σ' t.heap) (o_A G)) args s 0 0 (o_A G)) G 0 0 3 σ 4 [(0, .ref (gAd G 0)), (1, .int x1), (2, .int x2)] [] := by
  intro n
  induction n with
  | zero =>
    intro x1 x2 σ hok hq
    exact hok.elim
  | succ n ih =>
    intro x1 x2 σ hok hq
    refine r_iload_n (pc := 4) hc 2 dX5_poor_4 rfl rfl ?_
    refine r_bipush (pc := 5) (v := 8) hc dX5_poor_5 (by decide) ?_
    refine r_icmp_ge (pc := 7) (tgt := 30) hc dX5_poor_7 (by decide) (fun c7 => ?_) (fun c7 => ?_)
    · have hok := hok.1 c7
      have hq := o_qp hq c7
      refine r_iload_n (pc := 30) hc 1 dX5_poor_30 rfl rfl ?_
      exact r_iret hc hr rfl dX5_poor_31 (hq _ rfl)
    · have hok := hok.2 c7
      have hq := o_qn hq c7
      refine r_aload_n (pc := 10) hc 0 dX5_poor_10 rfl rfl ?_
      refine r_getr (pc := 11) (j := 1) hc 0 kk5 (o_lt hc (by decide)) rfl (by decide) kF_X5_12 rfl rfl dX5_poor_11 ?_
      refine r_iload_n (pc := 14) hc 2 dX5_poor_14 rfl rfl ?_
      obtain ⟨hs1, hok⟩ := hok
      refine r_callVN_i (pc := 15) (as := [.int _]) hc (c_X3_isPoor l _ hs1) kk3 (o_lt hc (by decide)) rfl mV_X3_isPoor kN_X5_199 ⟨Nat.le_of_ble_eq_true rfl, Nat.le_of_ble_eq_true rfl⟩ ⟨Nat.le_of_ble_eq_true rfl, Nat.le_of_ble_eq_true rfl⟩ rfl rfl (Nat.le_of_ble_eq_true rfl) dX5_poor_15 (fun r σ' h => ?_)
      obtain ⟨rfl, rfl⟩ := h
      refine r_if_eq (pc := 18) (tgt := 24) hc dX5_poor_18 (by decide) (fun c18 => ?_) (fun c18 => ?_)
      · have hok := hok.1 c18
        have hq := o_qp hq c18
        refine r_iinc (pc := 24) (q := 2) (v := _ + 1) (lv' := [(2, _), (0, _), (1, _)]) hc dX5_poor_24 rfl rfl (by decide) rfl ?_
        refine r_goto (pc := 27) (tgt := 4) hc dX5_poor_27 (by decide) ?_
        exact o_V.sub (ih _ _ _ hok hq) [1, 2, 0] rfl
      · have hok := hok.2 c18
        have hq := o_qn hq c18
        refine r_iinc (pc := 21) (q := 1) (v := _ + 1) (lv' := [(1, _), (0, _), (2, _)]) hc dX5_poor_21 rfl rfl (by decide) rfl ?_
        refine r_iinc (pc := 24) (q := 2) (v := _ + 1) (lv' := [(2, _), (1, _), (0, _)]) hc dX5_poor_24 rfl rfl (by decide) rfl ?_
        refine r_goto (pc := 27) (tgt := 4) hc dX5_poor_27 (by decide) ?_
        exact o_V.sub (ih _ _ _ hok hq) [2, 1, 0] rfl
set_option maxHeartbeats 4000000 in
set_option maxRecDepth 100000 in
theorem c_X5_poor (l : Launch) (G : Gt)   {σ : Sg} (hok : ok_X5_poor  σ) : o_Ci l G yX5_poor cX5_poor 3 (some .int) 2 45 [.ref (gAd G 0)] σ (fun r σ' => r = f_X5_poor  σ ∧ σ' = σ) := by
  refine o_Ci.of (by decide +kernel) (Nat.le_of_ble_eq_true rfl) ?_
  intro p e s m args below meth c hc hr
  have hq : ∀ q : Int32, q = f_X5_poor  σ → (fun r σ' => r = f_X5_poor  σ ∧ σ' = σ) q σ := fun q h => ⟨h, rfl⟩
  refine r_iconst (pc := 0) (v := 0) hc dX5_poor_0 rfl ?_
  refine r_istore_n (pc := 1) (lv' := [(1, _), (0, _)]) hc dX5_poor_1 rfl (by decide) rfl ?_
  refine r_iconst (pc := 2) (v := 0) hc dX5_poor_2 rfl ?_
  refine r_istore_n (pc := 3) (lv' := [(2, _), (1, _), (0, _)]) hc dX5_poor_3 rfl (by decide) rfl ?_
  exact o_V.sub (t_X5_poor_4  hc hr oF _ _ _ hok hq) [2, 1, 0] rfl
noncomputable def f_X5_byTwo_41  : Nat → Int32 → Int32 → Int32 → Int32 → Int32 → Sg → Int32
  | 0 => fun _ _ _ _ _ σ => 0
  | n + 1 => fun x1 x2 x3 x4 x5 σ =>
    o_ite (4080 ≤ x5) (
      (-4)) (
      o_ite ((f_X5_remainder x5 (f_X5_at 41 x1 σ) σ) = x2) (
        o_ite ((f_X5_remainder x5 (f_X5_at 41 x3 σ) σ) = x4) (
          x5) (
          f_X5_byTwo_41 n x1 x2 x3 x4 (x5 + 1) σ)) (
        f_X5_byTwo_41 n x1 x2 x3 x4 (x5 + 1) σ))
def ok_X5_byTwo_41  : Nat → Int32 → Int32 → Int32 → Int32 → Int32 → Sg → Prop
  | 0 => fun _ _ _ _ _ _ => False
  | n + 1 => fun x1 x2 x3 x4 x5 σ =>
    ((4080 ≤ x5) →
      True) ∧ (¬ (4080 ≤ x5) →
      (ok_X5_at 41 x1 σ) ∧ ((ok_X5_remainder x5 (f_X5_at 41 x1 σ) σ) ∧ ((((f_X5_remainder x5 (f_X5_at 41 x1 σ) σ) = x2) →
        (ok_X5_at 41 x3 σ) ∧ ((ok_X5_remainder x5 (f_X5_at 41 x3 σ) σ) ∧ ((((f_X5_remainder x5 (f_X5_at 41 x3 σ) σ) = x4) →
          True) ∧ (¬ ((f_X5_remainder x5 (f_X5_at 41 x3 σ) σ) = x4) →
          ok_X5_byTwo_41  n x1 x2 x3 x4 (x5 + 1) σ)))) ∧ (¬ ((f_X5_remainder x5 (f_X5_at 41 x1 σ) σ) = x2) →
        ok_X5_byTwo_41  n x1 x2 x3 x4 (x5 + 1) σ))))
noncomputable def f_X5_byTwo (p1 : Int32) (p2 : Int32) (p3 : Int32) (p4 : Int32) (σ : Sg) : Int32 :=
  o_ite ((f_X5_isTrack p1 σ) = 0) (
    (-1)) (
    o_ite ((f_X5_isTrack p3 σ) = 0) (
      (-1)) (
      o_ite (p1 = p3) (
        (-1)) (
        o_ite ((f_X5_isReading p1 p2 σ) = 0) (
          (-1)) (
          o_ite ((f_X5_isReading p3 p4 σ) = 0) (
            (-1)) (
            f_X5_byTwo_41  oF p1 p2 p3 p4 0 σ)))))
def ok_X5_byTwo (p1 : Int32) (p2 : Int32) (p3 : Int32) (p4 : Int32) (σ : Sg) : Prop :=
  (ok_X5_isTrack p1 σ) ∧ ((((f_X5_isTrack p1 σ) = 0) →
    True) ∧ (¬ ((f_X5_isTrack p1 σ) = 0) →
    (ok_X5_isTrack p3 σ) ∧ ((((f_X5_isTrack p3 σ) = 0) →
      True) ∧ (¬ ((f_X5_isTrack p3 σ) = 0) →
      ((p1 = p3) →
        True) ∧ (¬ (p1 = p3) →
        (ok_X5_isReading p1 p2 σ) ∧ ((((f_X5_isReading p1 p2 σ) = 0) →
          True) ∧ (¬ ((f_X5_isReading p1 p2 σ) = 0) →
          (ok_X5_isReading p3 p4 σ) ∧ ((((f_X5_isReading p3 p4 σ) = 0) →
            True) ∧ (¬ ((f_X5_isReading p3 p4 σ) = 0) →
            ok_X5_byTwo_41  oF p1 p2 p3 p4 0 σ)))))))))
set_option maxHeartbeats 4000000 in
set_option maxRecDepth 100000 in
theorem t_X5_byTwo_41 {p : Program} {l : Launch} {e : Env} {s : State} {m : MethodId} {args : Array Value} {below : List Frame} {meth : Method} {c : Code} {G : Gt} {post : Int32 → Sg → Prop}   (hc : o_Cx p s m args meth c G cX5_byTwo yX5_byTwo.cls 6) (hr : meth.sig.returnType = (some .int)) : ∀ (n : Nat) (x1 : Int32) (x2 : Int32) (x3 : Int32) (x4 : Int32) (x5 : Int32) (σ : Sg) (hok : ok_X5_byTwo_41  n x1 x2 x3 x4 x5 σ) (hq : ∀ q : Int32, q = f_X5_byTwo_41  n x1 x2 x3 x4 x5 σ → post q σ), o_V p l e { frames := 2, cells := 0, slots := 0, locals := 43 } s m args below meth c (MQ below (va_Qi post (fun σ' t => o_W G σ' t.heap) (o_A G)) args s 0 0 (o_A G)) G 0 0 6 σ 41 [(1, .int x1), (2, .int x2), (3, .int x3), (4, .int x4), (5, .int x5)] [] := by
  intro n
  induction n with
  | zero =>
    intro x1 x2 x3 x4 x5 σ hok hq
    exact hok.elim
  | succ n ih =>
    intro x1 x2 x3 x4 x5 σ hok hq
    refine r_iload (pc := 41) hc 4 dX5_byTwo_41 rfl ?_
    refine r_sipush (pc := 43) (v := 4080) hc dX5_byTwo_43 (by decide) ?_
    refine r_icmp_ge (pc := 46) (tgt := 91) hc dX5_byTwo_46 (by decide) (fun c46 => ?_) (fun c46 => ?_)
    · have hok := hok.1 c46
      have hq := o_qp hq c46
      refine r_bipush (pc := 91) (v := (-4)) hc dX5_byTwo_91 (by decide) ?_
      exact r_iret hc hr rfl dX5_byTwo_93 (hq _ rfl)
    · have hok := hok.2 c46
      have hq := o_qn hq c46
      refine r_iload (pc := 49) hc 4 dX5_byTwo_49 rfl ?_
      refine r_gets (pc := 51) hc 41 (by decide) (by decide) rfl kF_X5_165 dX5_byTwo_51 ?_
      refine r_iload_n (pc := 54) hc 0 dX5_byTwo_54 rfl rfl ?_
      obtain ⟨hs1, hok⟩ := hok
      refine r_callS_i (pc := 55) (as := [.ref (gAd G _), .int _]) hc (c_X5_at l _ (Or.inr ⟨by decide, by decide⟩) hs1) mS_X5_at kM_X5_124 ⟨Nat.le_of_ble_eq_true rfl, Nat.le_of_ble_eq_true rfl⟩ ⟨Nat.le_of_ble_eq_true rfl, Nat.le_of_ble_eq_true rfl⟩ rfl rfl (Nat.le_of_ble_eq_true rfl) dX5_byTwo_55 (fun r σ' h => ?_)
      obtain ⟨rfl, rfl⟩ := h
      obtain ⟨hs2, hok⟩ := hok
      refine r_callS_i (pc := 58) (as := [.int _, .int _]) hc (c_X5_remainder l _ hs2) mS_X5_remainder kM_X5_168 ⟨Nat.le_of_ble_eq_true rfl, Nat.le_of_ble_eq_true rfl⟩ ⟨Nat.le_of_ble_eq_true rfl, Nat.le_of_ble_eq_true rfl⟩ rfl rfl (Nat.le_of_ble_eq_true rfl) dX5_byTwo_58 (fun r σ' h => ?_)
      obtain ⟨rfl, rfl⟩ := h
      refine r_iload_n (pc := 61) hc 1 dX5_byTwo_61 rfl rfl ?_
      refine r_icmp_ne (pc := 62) (tgt := 85) hc dX5_byTwo_62 (by decide) (fun c62 => ?_) (fun c62 => ?_)
      · have hok := hok.2 c62
        have hq := o_qn hq c62
        refine r_iinc (pc := 85) (q := 4) (v := _ + 1) (lv' := [(5, _), (1, _), (2, _), (3, _), (4, _)]) hc dX5_byTwo_85 rfl rfl (by decide) rfl ?_
        refine r_goto (pc := 88) (tgt := 41) hc dX5_byTwo_88 (by decide) ?_
        exact o_V.sub (ih _ _ _ _ _ _ hok hq) [1, 2, 3, 4, 0] rfl
      · have hok := hok.1 c62
        have hq := o_qp hq c62
        refine r_iload (pc := 65) hc 4 dX5_byTwo_65 rfl ?_
        refine r_gets (pc := 67) hc 41 (by decide) (by decide) rfl kF_X5_165 dX5_byTwo_67 ?_
        refine r_iload_n (pc := 70) hc 2 dX5_byTwo_70 rfl rfl ?_
        obtain ⟨hs3, hok⟩ := hok
        refine r_callS_i (pc := 71) (as := [.ref (gAd G _), .int _]) hc (c_X5_at l _ (Or.inr ⟨by decide, by decide⟩) hs3) mS_X5_at kM_X5_124 ⟨Nat.le_of_ble_eq_true rfl, Nat.le_of_ble_eq_true rfl⟩ ⟨Nat.le_of_ble_eq_true rfl, Nat.le_of_ble_eq_true rfl⟩ rfl rfl (Nat.le_of_ble_eq_true rfl) dX5_byTwo_71 (fun r σ' h => ?_)
        obtain ⟨rfl, rfl⟩ := h
        obtain ⟨hs4, hok⟩ := hok
        refine r_callS_i (pc := 74) (as := [.int _, .int _]) hc (c_X5_remainder l _ hs4) mS_X5_remainder kM_X5_168 ⟨Nat.le_of_ble_eq_true rfl, Nat.le_of_ble_eq_true rfl⟩ ⟨Nat.le_of_ble_eq_true rfl, Nat.le_of_ble_eq_true rfl⟩ rfl rfl (Nat.le_of_ble_eq_true rfl) dX5_byTwo_74 (fun r σ' h => ?_)
        obtain ⟨rfl, rfl⟩ := h
        refine r_iload (pc := 77) hc 3 dX5_byTwo_77 rfl ?_
        refine r_icmp_ne (pc := 79) (tgt := 85) hc dX5_byTwo_79 (by decide) (fun c79 => ?_) (fun c79 => ?_)
        · have hok := hok.2 c79
          have hq := o_qn hq c79
          refine r_iinc (pc := 85) (q := 4) (v := _ + 1) (lv' := [(5, _), (1, _), (2, _), (3, _), (4, _)]) hc dX5_byTwo_85 rfl rfl (by decide) rfl ?_
          refine r_goto (pc := 88) (tgt := 41) hc dX5_byTwo_88 (by decide) ?_
          exact o_V.sub (ih _ _ _ _ _ _ hok hq) [1, 2, 3, 4, 0] rfl
        · have hok := hok.1 c79
          have hq := o_qp hq c79
          refine r_iload (pc := 82) hc 4 dX5_byTwo_82 rfl ?_
          exact r_iret hc hr rfl dX5_byTwo_84 (hq _ rfl)
set_option maxHeartbeats 4000000 in
set_option maxRecDepth 100000 in
theorem c_X5_byTwo (l : Launch) (G : Gt) {p1 : Int32} {p2 : Int32} {p3 : Int32} {p4 : Int32}  {σ : Sg} (hok : ok_X5_byTwo p1 p2 p3 p4 σ) : o_Ci l G yX5_byTwo cX5_byTwo 6 (some .int) 2 43 [.ref (gAd G 0), .int p1, .int p2, .int p3, .int p4] σ (fun r σ' => r = f_X5_byTwo p1 p2 p3 p4 σ ∧ σ' = σ) := by
  refine o_Ci.of (by decide +kernel) (Nat.le_of_ble_eq_true rfl) ?_
  intro p e s m args below meth c hc hr
  have hq : ∀ q : Int32, q = f_X5_byTwo p1 p2 p3 p4 σ → (fun r σ' => r = f_X5_byTwo p1 p2 p3 p4 σ ∧ σ' = σ) q σ := fun q h => ⟨h, rfl⟩
  refine r_iload_n (pc := 0) hc 1 dX5_byTwo_0 rfl rfl ?_
  obtain ⟨hs1, hok⟩ := hok
  refine r_callS_i (pc := 1) (as := [.int _]) hc (c_X5_isTrack l _ hs1) mS_X5_isTrack kM_X5_132 ⟨Nat.le_of_ble_eq_true rfl, Nat.le_of_ble_eq_true rfl⟩ ⟨Nat.le_of_ble_eq_true rfl, Nat.le_of_ble_eq_true rfl⟩ rfl rfl (Nat.le_of_ble_eq_true rfl) dX5_byTwo_1 (fun r σ' h => ?_)
  obtain ⟨rfl, rfl⟩ := h
  refine r_if_eq (pc := 4) (tgt := 36) hc dX5_byTwo_4 (by decide) (fun c4 => ?_) (fun c4 => ?_)
  · have hok := hok.1 c4
    have hq := o_qp hq c4
    refine r_iconst (pc := 36) (v := (-1)) hc dX5_byTwo_36 rfl ?_
    exact r_iret hc hr rfl dX5_byTwo_37 (hq _ rfl)
  · have hok := hok.2 c4
    have hq := o_qn hq c4
    refine r_iload_n (pc := 7) hc 3 dX5_byTwo_7 rfl rfl ?_
    obtain ⟨hs2, hok⟩ := hok
    refine r_callS_i (pc := 8) (as := [.int _]) hc (c_X5_isTrack l _ hs2) mS_X5_isTrack kM_X5_132 ⟨Nat.le_of_ble_eq_true rfl, Nat.le_of_ble_eq_true rfl⟩ ⟨Nat.le_of_ble_eq_true rfl, Nat.le_of_ble_eq_true rfl⟩ rfl rfl (Nat.le_of_ble_eq_true rfl) dX5_byTwo_8 (fun r σ' h => ?_)
    obtain ⟨rfl, rfl⟩ := h
    refine r_if_eq (pc := 11) (tgt := 36) hc dX5_byTwo_11 (by decide) (fun c11 => ?_) (fun c11 => ?_)
    · have hok := hok.1 c11
      have hq := o_qp hq c11
      refine r_iconst (pc := 36) (v := (-1)) hc dX5_byTwo_36 rfl ?_
      exact r_iret hc hr rfl dX5_byTwo_37 (hq _ rfl)
    · have hok := hok.2 c11
      have hq := o_qn hq c11
      refine r_iload_n (pc := 14) hc 1 dX5_byTwo_14 rfl rfl ?_
      refine r_iload_n (pc := 15) hc 3 dX5_byTwo_15 rfl rfl ?_
      refine r_icmp_eq (pc := 16) (tgt := 36) hc dX5_byTwo_16 (by decide) (fun c16 => ?_) (fun c16 => ?_)
      · have hok := hok.1 c16
        have hq := o_qp hq c16
        refine r_iconst (pc := 36) (v := (-1)) hc dX5_byTwo_36 rfl ?_
        exact r_iret hc hr rfl dX5_byTwo_37 (hq _ rfl)
      · have hok := hok.2 c16
        have hq := o_qn hq c16
        refine r_iload_n (pc := 19) hc 1 dX5_byTwo_19 rfl rfl ?_
        refine r_iload_n (pc := 20) hc 2 dX5_byTwo_20 rfl rfl ?_
        obtain ⟨hs3, hok⟩ := hok
        refine r_callS_i (pc := 21) (as := [.int _, .int _]) hc (c_X5_isReading l _ hs3) mS_X5_isReading kM_X5_154 ⟨Nat.le_of_ble_eq_true rfl, Nat.le_of_ble_eq_true rfl⟩ ⟨Nat.le_of_ble_eq_true rfl, Nat.le_of_ble_eq_true rfl⟩ rfl rfl (Nat.le_of_ble_eq_true rfl) dX5_byTwo_21 (fun r σ' h => ?_)
        obtain ⟨rfl, rfl⟩ := h
        refine r_if_eq (pc := 24) (tgt := 36) hc dX5_byTwo_24 (by decide) (fun c24 => ?_) (fun c24 => ?_)
        · have hok := hok.1 c24
          have hq := o_qp hq c24
          refine r_iconst (pc := 36) (v := (-1)) hc dX5_byTwo_36 rfl ?_
          exact r_iret hc hr rfl dX5_byTwo_37 (hq _ rfl)
        · have hok := hok.2 c24
          have hq := o_qn hq c24
          refine r_iload_n (pc := 27) hc 3 dX5_byTwo_27 rfl rfl ?_
          refine r_iload (pc := 28) hc 4 dX5_byTwo_28 rfl ?_
          obtain ⟨hs4, hok⟩ := hok
          refine r_callS_i (pc := 30) (as := [.int _, .int _]) hc (c_X5_isReading l _ hs4) mS_X5_isReading kM_X5_154 ⟨Nat.le_of_ble_eq_true rfl, Nat.le_of_ble_eq_true rfl⟩ ⟨Nat.le_of_ble_eq_true rfl, Nat.le_of_ble_eq_true rfl⟩ rfl rfl (Nat.le_of_ble_eq_true rfl) dX5_byTwo_30 (fun r σ' h => ?_)
          obtain ⟨rfl, rfl⟩ := h
          refine r_if_ne (pc := 33) (tgt := 38) hc dX5_byTwo_33 (by decide) (fun c33 => ?_) (fun c33 => ?_)
          · have hok := hok.2 c33
            have hq := o_qn hq c33
            refine r_iconst (pc := 38) (v := 0) hc dX5_byTwo_38 rfl ?_
            refine r_istore (pc := 39) (lv' := [(5, _), (0, _), (1, _), (2, _), (3, _), (4, _)]) hc dX5_byTwo_39 (by decide) rfl ?_
            exact o_V.sub (t_X5_byTwo_41  hc hr oF _ _ _ _ _ _ hok hq) [2, 3, 4, 5, 0] rfl
          · have hok := hok.1 c33
            have hq := o_qp hq c33
            refine r_iconst (pc := 36) (v := (-1)) hc dX5_byTwo_36 rfl ?_
            exact r_iret hc hr rfl dX5_byTwo_37 (hq _ rfl)
noncomputable def f_X5_fault (p1 : Int32) (σ : Sg) : Int32 × Sg :=
  o_ite ((f_X5_isOutside p1 0 1 σ) = 0) (
    let σ3 := f_X0_scan σ
    o_ite ((σ3 30 6) = 0) (
      ((-4), σ3)) (
      o_ite (p1 = 0) (
        ((σ3 30 5), σ3)) (
        ((σ3 30 6), σ3)))) (
    ((-1), σ))
def ok_X5_fault (p1 : Int32) (σ : Sg) : Prop :=
  (ok_X5_isOutside p1 0 1 σ) ∧ ((((f_X5_isOutside p1 0 1 σ) = 0) →
    (ok_X0_scan σ) ∧ (let σ3 := f_X0_scan σ
    (((σ3 30 6) = 0) →
      True) ∧ (¬ ((σ3 30 6) = 0) →
      ((p1 = 0) →
        True) ∧ (¬ (p1 = 0) →
        True)))) ∧ (¬ ((f_X5_isOutside p1 0 1 σ) = 0) →
    True))
set_option maxHeartbeats 4000000 in
set_option maxRecDepth 100000 in
theorem c_X5_fault (l : Launch) (G : Gt) {p1 : Int32}  {σ : Sg} (hok : ok_X5_fault p1 σ) : o_Ci l G yX5_fault cX5_fault 2 (some .int) 6 128 [.ref (gAd G 0), .int p1] σ (fun r σ' => r = (f_X5_fault p1 σ).1 ∧ σ' = (f_X5_fault p1 σ).2) := by
  refine o_Ci.of (by decide +kernel) (Nat.le_of_ble_eq_true rfl) ?_
  intro p e s m args below meth c hc hr
  have hq : ∀ q : Int32 × Sg, q = f_X5_fault p1 σ → (fun r σ' => r = (f_X5_fault p1 σ).1 ∧ σ' = (f_X5_fault p1 σ).2) q.1 q.2 := fun q h => ⟨congrArg Prod.fst h, congrArg Prod.snd h⟩
  refine r_iload_n (pc := 0) hc 1 dX5_fault_0 rfl rfl ?_
  refine r_iconst (pc := 1) (v := 0) hc dX5_fault_1 rfl ?_
  refine r_iconst (pc := 2) (v := 1) hc dX5_fault_2 rfl ?_
  obtain ⟨hs1, hok⟩ := hok
  refine r_callS_i (pc := 3) (as := [.int _, .int _, .int _]) hc (c_X5_isOutside l _ hs1) mS_X5_isOutside kM_X5_44 ⟨Nat.le_of_ble_eq_true rfl, Nat.le_of_ble_eq_true rfl⟩ ⟨Nat.le_of_ble_eq_true rfl, Nat.le_of_ble_eq_true rfl⟩ rfl rfl (Nat.le_of_ble_eq_true rfl) dX5_fault_3 (fun r σ' h => ?_)
  obtain ⟨rfl, rfl⟩ := h
  refine r_if_eq (pc := 6) (tgt := 11) hc dX5_fault_6 (by decide) (fun c6 => ?_) (fun c6 => ?_)
  · have hok := hok.1 c6
    have hq := o_qp hq c6
    refine r_aload_n (pc := 11) hc 0 dX5_fault_11 rfl rfl ?_
    refine r_getr (pc := 12) (j := 30) hc 4 kk5 (o_lt hc (by decide)) rfl (by decide) kF_X5_40 rfl rfl dX5_fault_12 ?_
    obtain ⟨hs2, hok⟩ := hok
    refine r_callVN_v (pc := 15) (as := []) hc (c_X0_scan l _ hs2) kk0 (o_lt hc (by decide)) rfl mV_X0_scan kN_X5_220 ⟨Nat.le_of_ble_eq_true rfl, Nat.le_of_ble_eq_true rfl⟩ ⟨Nat.le_of_ble_eq_true rfl, Nat.le_of_ble_eq_true rfl⟩ rfl rfl (Nat.le_of_ble_eq_true rfl) dX5_fault_15 (fun σ' h => ?_)
    subst h
    refine r_aload_n (pc := 18) hc 0 dX5_fault_18 rfl rfl ?_
    refine r_getr (pc := 19) (j := 30) hc 4 kk5 (o_lt hc (by decide)) rfl (by decide) kF_X5_40 rfl rfl dX5_fault_19 ?_
    refine r_getiN (pc := 22) hc 6 kk0 (o_lt hc (by decide)) rfl (by decide) kN_X5_223 rfl rfl dX5_fault_22 ?_
    refine r_if_ne (pc := 25) (tgt := 31) hc dX5_fault_25 (by decide) (fun c25 => ?_) (fun c25 => ?_)
    · have hok := hok.2 c25
      have hq := o_qn hq c25
      refine r_iload_n (pc := 31) hc 1 dX5_fault_31 rfl rfl ?_
      refine r_if_ne (pc := 32) (tgt := 45) hc dX5_fault_32 (by decide) (fun c32 => ?_) (fun c32 => ?_)
      · have hok := hok.2 c32
        have hq := o_qn hq c32
        refine r_aload_n (pc := 45) hc 0 dX5_fault_45 rfl rfl ?_
        refine r_getr (pc := 46) (j := 30) hc 4 kk5 (o_lt hc (by decide)) rfl (by decide) kF_X5_40 rfl rfl dX5_fault_46 ?_
        refine r_getiN (pc := 49) hc 6 kk0 (o_lt hc (by decide)) rfl (by decide) kN_X5_223 rfl rfl dX5_fault_49 ?_
        exact r_iret hc hr rfl dX5_fault_52 (hq (_, _) rfl)
      · have hok := hok.1 c32
        have hq := o_qp hq c32
        refine r_aload_n (pc := 35) hc 0 dX5_fault_35 rfl rfl ?_
        refine r_getr (pc := 36) (j := 30) hc 4 kk5 (o_lt hc (by decide)) rfl (by decide) kF_X5_40 rfl rfl dX5_fault_36 ?_
        refine r_getiN (pc := 39) hc 5 kk0 (o_lt hc (by decide)) rfl (by decide) kN_X5_226 rfl rfl dX5_fault_39 ?_
        refine r_goto (pc := 42) (tgt := 52) hc dX5_fault_42 (by decide) ?_
        exact r_iret hc hr rfl dX5_fault_52 (hq (_, _) rfl)
    · have hok := hok.1 c25
      have hq := o_qp hq c25
      refine r_bipush (pc := 28) (v := (-4)) hc dX5_fault_28 (by decide) ?_
      exact r_iret hc hr rfl dX5_fault_30 (hq (_, _) rfl)
  · have hok := hok.2 c6
    have hq := o_qn hq c6
    refine r_iconst (pc := 9) (v := (-1)) hc dX5_fault_9 rfl ?_
    exact r_iret hc hr rfl dX5_fault_10 (hq (_, _) rfl)
noncomputable def f_X5_survey_98 (K : Int32 → Int32 → Int32 → Int32 → Int32 → Int32 → Sg → Int32 × Sg) (x1 : Int32) (x2 : Int32) (x3 : Int32) (x4 : Int32) (x5 : Int32) (x6 : Int32) (σ : Sg) : Int32 × Sg :=
  K x1 x2 x3 x4 x5 (x6 + x1) σ
def ok_X5_survey_98 (okK : Int32 → Int32 → Int32 → Int32 → Int32 → Int32 → Sg → Prop) (x1 : Int32) (x2 : Int32) (x3 : Int32) (x4 : Int32) (x5 : Int32) (x6 : Int32) (σ : Sg) : Prop :=
  okK x1 x2 x3 x4 x5 (x6 + x1) σ
noncomputable def f_X5_survey_93 (K : Int32 → Int32 → Int32 → Int32 → Int32 → Int32 → Sg → Int32 × Sg) (x1 : Int32) (x2 : Int32) (x3 : Int32) (x5 : Int32) (x6 : Int32) (y0 : Int32) (σ : Sg) : Int32 × Sg :=
  f_X5_survey_98 K x1 x2 (x3 + 1) y0 x5 x6 σ
def ok_X5_survey_93 (okK : Int32 → Int32 → Int32 → Int32 → Int32 → Int32 → Sg → Prop) (x1 : Int32) (x2 : Int32) (x3 : Int32) (x5 : Int32) (x6 : Int32) (y0 : Int32) (σ : Sg) : Prop :=
  ok_X5_survey_98 okK x1 x2 (x3 + 1) y0 x5 x6 σ
noncomputable def f_X5_survey_35  : Nat → Int32 → Int32 → Int32 → Int32 → Int32 → Int32 → Sg → Int32 × Sg
  | 0 => fun _ _ _ _ _ _ σ => (0, σ)
  | n + 1 => fun x1 x2 x3 x4 x5 x6 σ =>
    o_ite (4080 ≤ x6) (
      o_ite (x2 = 0) (
        (x3, σ)) (
        o_ite (x2 = 1) (
          (x4, σ)) (
          (x5, σ)))) (
      let σ2 := f_X1_search x6 σ
      o_ite ((σ2 28 1) = x6) (
        f_X5_survey_98 (f_X5_survey_35 n) x1 x2 x3 x4 (if x5 < (σ2 28 2) then (σ2 28 2) else x5) x6 σ2) (
        o_ite (x3 = 0) (
          f_X5_survey_93 (f_X5_survey_35 n) x1 x2 x3 (if x5 < (σ2 28 2) then (σ2 28 2) else x5) x6 x6 σ2) (
          f_X5_survey_93 (f_X5_survey_35 n) x1 x2 x3 (if x5 < (σ2 28 2) then (σ2 28 2) else x5) x6 x4 σ2)))
def ok_X5_survey_35  : Nat → Int32 → Int32 → Int32 → Int32 → Int32 → Int32 → Sg → Prop
  | 0 => fun _ _ _ _ _ _ _ => False
  | n + 1 => fun x1 x2 x3 x4 x5 x6 σ =>
    ((4080 ≤ x6) →
      ((x2 = 0) →
        True) ∧ (¬ (x2 = 0) →
        ((x2 = 1) →
          True) ∧ (¬ (x2 = 1) →
          True))) ∧ (¬ (4080 ≤ x6) →
      (ok_X1_search x6 σ) ∧ (let σ2 := f_X1_search x6 σ
      (((σ2 28 1) = x6) →
        ok_X5_survey_98 (ok_X5_survey_35 n) x1 x2 x3 x4 (if x5 < (σ2 28 2) then (σ2 28 2) else x5) x6 σ2) ∧ (¬ ((σ2 28 1) = x6) →
        ((x3 = 0) →
          ok_X5_survey_93 (ok_X5_survey_35 n) x1 x2 x3 (if x5 < (σ2 28 2) then (σ2 28 2) else x5) x6 x6 σ2) ∧ (¬ (x3 = 0) →
          ok_X5_survey_93 (ok_X5_survey_35 n) x1 x2 x3 (if x5 < (σ2 28 2) then (σ2 28 2) else x5) x6 x4 σ2))))
noncomputable def f_X5_survey (p1 : Int32) (p2 : Int32) (σ : Sg) : Int32 × Sg :=
  o_ite ((f_X5_isOutside p1 102 4080 σ) = 0) (
    o_ite ((f_X5_isOutside p2 0 2 σ) = 0) (
      f_X5_survey_35  oF p1 p2 0 (-4) 0 0 σ) (
      ((-1), σ))) (
    ((-1), σ))
def ok_X5_survey (p1 : Int32) (p2 : Int32) (σ : Sg) : Prop :=
  (ok_X5_isOutside p1 102 4080 σ) ∧ ((((f_X5_isOutside p1 102 4080 σ) = 0) →
    (ok_X5_isOutside p2 0 2 σ) ∧ ((((f_X5_isOutside p2 0 2 σ) = 0) →
      ok_X5_survey_35  oF p1 p2 0 (-4) 0 0 σ) ∧ (¬ ((f_X5_isOutside p2 0 2 σ) = 0) →
      True))) ∧ (¬ ((f_X5_isOutside p1 102 4080 σ) = 0) →
    True))
set_option maxHeartbeats 4000000 in
set_option maxRecDepth 100000 in
theorem t_X5_survey_98 {p : Program} {l : Launch} {e : Env} {s : State} {m : MethodId} {args : Array Value} {below : List Frame} {meth : Method} {c : Code} {G : Gt} {post : Int32 → Sg → Prop}  (hc : o_Cx p s m args meth c G cX5_survey yX5_survey.cls 7) (hr : meth.sig.returnType = (some .int)) {K : Int32 → Int32 → Int32 → Int32 → Int32 → Int32 → Sg → Int32 × Sg} {okK : Int32 → Int32 → Int32 → Int32 → Int32 → Int32 → Sg → Prop} (hK : ∀ (z1 : Int32) (z2 : Int32) (z3 : Int32) (z4 : Int32) (z5 : Int32) (z6 : Int32) (zs : Sg), okK z1 z2 z3 z4 z5 z6 zs → (∀ q : Int32 × Sg, q = K z1 z2 z3 z4 z5 z6 zs → post q.1 q.2) → o_V p l e { frames := 6, cells := 0, slots := 0, locals := 145 } s m args below meth c (MQ below (va_Qi post (fun σ' t => o_W G σ' t.heap) (o_A G)) args s 0 0 (o_A G)) G 0 0 7 zs 35 [(0, .ref (gAd G 0)), (1, .int z1), (2, .int z2), (3, .int z3), (4, .int z4), (5, .int z5), (6, .int z6)] []) {x1 : Int32} {x2 : Int32} {x3 : Int32} {x4 : Int32} {x5 : Int32} {x6 : Int32} {σ : Sg} (hok : ok_X5_survey_98 okK x1 x2 x3 x4 x5 x6 σ) (hq : ∀ q : Int32 × Sg, q = f_X5_survey_98 K x1 x2 x3 x4 x5 x6 σ → post q.1 q.2) : o_V p l e { frames := 6, cells := 0, slots := 0, locals := 145 } s m args below meth c (MQ below (va_Qi post (fun σ' t => o_W G σ' t.heap) (o_A G)) args s 0 0 (o_A G)) G 0 0 7 σ 98 [(0, .ref (gAd G 0)), (1, .int x1), (2, .int x2), (3, .int x3), (4, .int x4), (5, .int x5), (6, .int x6)] [] := by
  refine r_iload (pc := 98) hc 6 dX5_survey_98 rfl ?_
  refine r_iload_n (pc := 100) hc 1 dX5_survey_100 rfl rfl ?_
  refine r_iadd (pc := 101) hc dX5_survey_101 ?_
  refine r_istore (pc := 102) (lv' := [(6, _), (0, _), (1, _), (2, _), (3, _), (4, _), (5, _)]) hc dX5_survey_102 (by decide) rfl ?_
  refine r_goto (pc := 104) (tgt := 35) hc dX5_survey_104 (by decide) ?_
  exact o_V.sub (hK _ _ _ _ _ _ _ hok hq) [1, 2, 3, 4, 5, 6, 0] rfl
set_option maxHeartbeats 4000000 in
set_option maxRecDepth 100000 in
theorem t_X5_survey_93 {p : Program} {l : Launch} {e : Env} {s : State} {m : MethodId} {args : Array Value} {below : List Frame} {meth : Method} {c : Code} {G : Gt} {post : Int32 → Sg → Prop}  (hc : o_Cx p s m args meth c G cX5_survey yX5_survey.cls 7) (hr : meth.sig.returnType = (some .int)) {K : Int32 → Int32 → Int32 → Int32 → Int32 → Int32 → Sg → Int32 × Sg} {okK : Int32 → Int32 → Int32 → Int32 → Int32 → Int32 → Sg → Prop} (hK : ∀ (z1 : Int32) (z2 : Int32) (z3 : Int32) (z4 : Int32) (z5 : Int32) (z6 : Int32) (zs : Sg), okK z1 z2 z3 z4 z5 z6 zs → (∀ q : Int32 × Sg, q = K z1 z2 z3 z4 z5 z6 zs → post q.1 q.2) → o_V p l e { frames := 6, cells := 0, slots := 0, locals := 145 } s m args below meth c (MQ below (va_Qi post (fun σ' t => o_W G σ' t.heap) (o_A G)) args s 0 0 (o_A G)) G 0 0 7 zs 35 [(0, .ref (gAd G 0)), (1, .int z1), (2, .int z2), (3, .int z3), (4, .int z4), (5, .int z5), (6, .int z6)] []) {x1 : Int32} {x2 : Int32} {x3 : Int32} {x5 : Int32} {x6 : Int32} {y0 : Int32} {σ : Sg} (hok : ok_X5_survey_93 okK x1 x2 x3 x5 x6 y0 σ) (hq : ∀ q : Int32 × Sg, q = f_X5_survey_93 K x1 x2 x3 x5 x6 y0 σ → post q.1 q.2) : o_V p l e { frames := 6, cells := 0, slots := 0, locals := 145 } s m args below meth c (MQ below (va_Qi post (fun σ' t => o_W G σ' t.heap) (o_A G)) args s 0 0 (o_A G)) G 0 0 7 σ 93 [(0, .ref (gAd G 0)), (1, .int x1), (2, .int x2), (3, .int x3), (5, .int x5), (6, .int x6)] [.int y0] := by
  refine r_istore (pc := 93) (lv' := [(4, _), (0, _), (1, _), (2, _), (3, _), (5, _), (6, _)]) hc dX5_survey_93 (by decide) rfl ?_
  refine r_iinc (pc := 95) (q := 4) (v := _ + 1) (lv' := [(3, _), (4, _), (0, _), (1, _), (2, _), (5, _), (6, _)]) hc dX5_survey_95 rfl rfl (by decide) rfl ?_
  exact o_V.sub (t_X5_survey_98 hc hr hK hok hq) [2, 3, 4, 0, 1, 5, 6] rfl
set_option maxHeartbeats 4000000 in
set_option maxRecDepth 100000 in
theorem t_X5_survey_35 {p : Program} {l : Launch} {e : Env} {s : State} {m : MethodId} {args : Array Value} {below : List Frame} {meth : Method} {c : Code} {G : Gt} {post : Int32 → Sg → Prop}   (hc : o_Cx p s m args meth c G cX5_survey yX5_survey.cls 7) (hr : meth.sig.returnType = (some .int)) : ∀ (n : Nat) (x1 : Int32) (x2 : Int32) (x3 : Int32) (x4 : Int32) (x5 : Int32) (x6 : Int32) (σ : Sg) (hok : ok_X5_survey_35  n x1 x2 x3 x4 x5 x6 σ) (hq : ∀ q : Int32 × Sg, q = f_X5_survey_35  n x1 x2 x3 x4 x5 x6 σ → post q.1 q.2), o_V p l e { frames := 6, cells := 0, slots := 0, locals := 145 } s m args below meth c (MQ below (va_Qi post (fun σ' t => o_W G σ' t.heap) (o_A G)) args s 0 0 (o_A G)) G 0 0 7 σ 35 [(0, .ref (gAd G 0)), (1, .int x1), (2, .int x2), (3, .int x3), (4, .int x4), (5, .int x5), (6, .int x6)] [] := by
  intro n
  induction n with
  | zero =>
    intro x1 x2 x3 x4 x5 x6 σ hok hq
    exact hok.elim
  | succ n ih =>
    intro x1 x2 x3 x4 x5 x6 σ hok hq
    refine r_iload (pc := 35) hc 6 dX5_survey_35 rfl ?_
    refine r_sipush (pc := 37) (v := 4080) hc dX5_survey_37 (by decide) ?_
    refine r_icmp_ge (pc := 40) (tgt := 107) hc dX5_survey_40 (by decide) (fun c40 => ?_) (fun c40 => ?_)
    · have hok := hok.1 c40
      have hq := o_qp hq c40
      refine r_iload_n (pc := 107) hc 2 dX5_survey_107 rfl rfl ?_
      refine o_cs (x2 = 0) (fun s108_0 => ?_) (fun s108_0 => ?_)
      · have hok := hok.1 s108_0
        have hq := o_qp hq s108_0
        refine r_lookIn (pc := 108) (tgt := 136) (k := 0) (off := 28) hc dX5_survey_108 s108_0 (by decide) (by decide) (by decide) ?_
        refine r_iload_n (pc := 136) hc 3 dX5_survey_136 rfl rfl ?_
        exact r_iret hc hr rfl dX5_survey_137 (hq (_, _) rfl)
      have hok := hok.2 s108_0
      have hq := o_qn hq s108_0
      refine o_cs (x2 = 1) (fun s108_1 => ?_) (fun s108_1 => ?_)
      · have hok := hok.1 s108_1
        have hq := o_qp hq s108_1
        refine r_lookIn (pc := 108) (tgt := 138) (k := 1) (off := 30) hc dX5_survey_108 s108_1 (by decide) (by decide) (by decide) ?_
        refine r_iload (pc := 138) hc 4 dX5_survey_138 rfl ?_
        exact r_iret hc hr rfl dX5_survey_140 (hq (_, _) rfl)
      have hok := hok.2 s108_1
      have hq := o_qn hq s108_1
      refine r_lookOut (pc := 108) (tgt := 141) (off := 33) hc dX5_survey_108 (by decide) ((lv_osw s108_0 (by decide)).trans ((lv_osw s108_1 (by decide)).trans rfl)) (by decide) ?_
      refine r_iload (pc := 141) hc 5 dX5_survey_141 rfl ?_
      exact r_iret hc hr rfl dX5_survey_143 (hq (_, _) rfl)
    · have hok := hok.2 c40
      have hq := o_qn hq c40
      refine r_aload_n (pc := 43) hc 0 dX5_survey_43 rfl rfl ?_
      refine r_getr (pc := 44) (j := 28) hc 2 kk5 (o_lt hc (by decide)) rfl (by decide) kF_X5_26 rfl rfl dX5_survey_44 ?_
      refine r_aload_n (pc := 47) hc 0 dX5_survey_47 rfl rfl ?_
      refine r_getr (pc := 48) (j := 1) hc 0 kk5 (o_lt hc (by decide)) rfl (by decide) kF_X5_12 rfl rfl dX5_survey_48 ?_
      refine r_iload (pc := 51) hc 6 dX5_survey_51 rfl ?_
      obtain ⟨hs1, hok⟩ := hok
      refine r_callVN_v (pc := 53) (as := [.ref (gAd G _), .int _]) hc (c_X1_search l _ hs1) kk1 (o_lt hc (by decide)) rfl mV_X1_search kN_X5_180 ⟨Nat.le_of_ble_eq_true rfl, Nat.le_of_ble_eq_true rfl⟩ ⟨Nat.le_of_ble_eq_true rfl, Nat.le_of_ble_eq_true rfl⟩ rfl rfl (Nat.le_of_ble_eq_true rfl) dX5_survey_53 (fun σ' h => ?_)
      subst h
      refine r_iload (pc := 56) hc 5 dX5_survey_56 rfl ?_
      refine r_aload_n (pc := 58) hc 0 dX5_survey_58 rfl rfl ?_
      refine r_getr (pc := 59) (j := 28) hc 2 kk5 (o_lt hc (by decide)) rfl (by decide) kF_X5_26 rfl rfl dX5_survey_59 ?_
      refine r_getiN (pc := 62) hc 2 kk1 (o_lt hc (by decide)) rfl (by decide) kN_X5_187 rfl rfl dX5_survey_62 ?_
      refine r_max (pc := 65) hc kM_X5_196 (Nat.le_of_ble_eq_true rfl) (Nat.le_of_ble_eq_true rfl) ⟨Nat.le_of_ble_eq_true rfl, Nat.le_of_ble_eq_true rfl⟩ dX5_survey_65 ?_
      refine r_istore (pc := 68) (lv' := [(5, _), (0, _), (1, _), (2, _), (3, _), (4, _), (6, _)]) hc dX5_survey_68 (by decide) rfl ?_
      refine r_aload_n (pc := 70) hc 1 dX5_survey_70 rfl rfl ?_
      refine r_getr (pc := 71) (j := 28) hc 2 kk5 (o_lt hc (by decide)) rfl (by decide) kF_X5_26 rfl rfl dX5_survey_71 ?_
      refine r_getiN (pc := 74) hc 1 kk1 (o_lt hc (by decide)) rfl (by decide) kN_X5_184 rfl rfl dX5_survey_74 ?_
      refine r_iload (pc := 77) hc 6 dX5_survey_77 rfl ?_
      refine r_icmp_eq (pc := 79) (tgt := 98) hc dX5_survey_79 (by decide) (fun c79 => ?_) (fun c79 => ?_)
      · have hok := hok.1 c79
        have hq := o_qp hq c79
        exact o_V.sub (t_X5_survey_98 hc hr (K := f_X5_survey_35 n) (okK := ok_X5_survey_35 n) (fun z0 z1 z2 z3 z4 z5 zs h1 h2 => ih z0 z1 z2 z3 z4 z5 zs h1 h2) hok hq) [1, 2, 3, 4, 5, 0, 6] rfl
      · have hok := hok.2 c79
        have hq := o_qn hq c79
        refine r_iload_n (pc := 82) hc 4 dX5_survey_82 rfl rfl ?_
        refine r_if_ne (pc := 83) (tgt := 91) hc dX5_survey_83 (by decide) (fun c83 => ?_) (fun c83 => ?_)
        · have hok := hok.2 c83
          have hq := o_qn hq c83
          refine r_iload (pc := 91) hc 5 dX5_survey_91 rfl ?_
          exact o_V.sub (t_X5_survey_93 hc hr (K := f_X5_survey_35 n) (okK := ok_X5_survey_35 n) (fun z0 z1 z2 z3 z4 z5 zs h1 h2 => ih z0 z1 z2 z3 z4 z5 zs h1 h2) hok hq) [1, 2, 3, 4, 0, 6] rfl
        · have hok := hok.1 c83
          have hq := o_qp hq c83
          refine r_iload (pc := 86) hc 6 dX5_survey_86 rfl ?_
          refine r_goto (pc := 88) (tgt := 93) hc dX5_survey_88 (by decide) ?_
          exact o_V.sub (t_X5_survey_93 hc hr (K := f_X5_survey_35 n) (okK := ok_X5_survey_35 n) (fun z0 z1 z2 z3 z4 z5 zs h1 h2 => ih z0 z1 z2 z3 z4 z5 zs h1 h2) hok hq) [1, 2, 3, 4, 0, 6] rfl
set_option maxHeartbeats 4000000 in
set_option maxRecDepth 100000 in
theorem c_X5_survey (l : Launch) (G : Gt) {p1 : Int32} {p2 : Int32}  {σ : Sg} (hok : ok_X5_survey p1 p2 σ) : o_Ci l G yX5_survey cX5_survey 7 (some .int) 6 145 [.ref (gAd G 0), .int p1, .int p2] σ (fun r σ' => r = (f_X5_survey p1 p2 σ).1 ∧ σ' = (f_X5_survey p1 p2 σ).2) := by
  refine o_Ci.of (by decide +kernel) (Nat.le_of_ble_eq_true rfl) ?_
  intro p e s m args below meth c hc hr
  have hq : ∀ q : Int32 × Sg, q = f_X5_survey p1 p2 σ → (fun r σ' => r = (f_X5_survey p1 p2 σ).1 ∧ σ' = (f_X5_survey p1 p2 σ).2) q.1 q.2 := fun q h => ⟨congrArg Prod.fst h, congrArg Prod.snd h⟩
  refine r_iload_n (pc := 0) hc 1 dX5_survey_0 rfl rfl ?_
  refine r_bipush (pc := 1) (v := 102) hc dX5_survey_1 (by decide) ?_
  refine r_sipush (pc := 3) (v := 4080) hc dX5_survey_3 (by decide) ?_
  obtain ⟨hs1, hok⟩ := hok
  refine r_callS_i (pc := 6) (as := [.int _, .int _, .int _]) hc (c_X5_isOutside l _ hs1) mS_X5_isOutside kM_X5_44 ⟨Nat.le_of_ble_eq_true rfl, Nat.le_of_ble_eq_true rfl⟩ ⟨Nat.le_of_ble_eq_true rfl, Nat.le_of_ble_eq_true rfl⟩ rfl rfl (Nat.le_of_ble_eq_true rfl) dX5_survey_6 (fun r σ' h => ?_)
  obtain ⟨rfl, rfl⟩ := h
  refine r_if_ne (pc := 9) (tgt := 21) hc dX5_survey_9 (by decide) (fun c9 => ?_) (fun c9 => ?_)
  · have hok := hok.2 c9
    have hq := o_qn hq c9
    refine r_iconst (pc := 21) (v := (-1)) hc dX5_survey_21 rfl ?_
    exact r_iret hc hr rfl dX5_survey_22 (hq (_, _) rfl)
  · have hok := hok.1 c9
    have hq := o_qp hq c9
    refine r_iload_n (pc := 12) hc 2 dX5_survey_12 rfl rfl ?_
    refine r_iconst (pc := 13) (v := 0) hc dX5_survey_13 rfl ?_
    refine r_iconst (pc := 14) (v := 2) hc dX5_survey_14 rfl ?_
    obtain ⟨hs2, hok⟩ := hok
    refine r_callS_i (pc := 15) (as := [.int _, .int _, .int _]) hc (c_X5_isOutside l _ hs2) mS_X5_isOutside kM_X5_44 ⟨Nat.le_of_ble_eq_true rfl, Nat.le_of_ble_eq_true rfl⟩ ⟨Nat.le_of_ble_eq_true rfl, Nat.le_of_ble_eq_true rfl⟩ rfl rfl (Nat.le_of_ble_eq_true rfl) dX5_survey_15 (fun r σ' h => ?_)
    obtain ⟨rfl, rfl⟩ := h
    refine r_if_eq (pc := 18) (tgt := 23) hc dX5_survey_18 (by decide) (fun c18 => ?_) (fun c18 => ?_)
    · have hok := hok.1 c18
      have hq := o_qp hq c18
      refine r_iconst (pc := 23) (v := 0) hc dX5_survey_23 rfl ?_
      refine r_istore_n (pc := 24) (lv' := [(3, _), (0, _), (1, _), (2, _)]) hc dX5_survey_24 rfl (by decide) rfl ?_
      refine r_bipush (pc := 25) (v := (-4)) hc dX5_survey_25 (by decide) ?_
      refine r_istore (pc := 27) (lv' := [(4, _), (3, _), (0, _), (1, _), (2, _)]) hc dX5_survey_27 (by decide) rfl ?_
      refine r_iconst (pc := 29) (v := 0) hc dX5_survey_29 rfl ?_
      refine r_istore (pc := 30) (lv' := [(5, _), (4, _), (3, _), (0, _), (1, _), (2, _)]) hc dX5_survey_30 (by decide) rfl ?_
      refine r_iconst (pc := 32) (v := 0) hc dX5_survey_32 rfl ?_
      refine r_istore (pc := 33) (lv' := [(6, _), (5, _), (4, _), (3, _), (0, _), (1, _), (2, _)]) hc dX5_survey_33 (by decide) rfl ?_
      exact o_V.sub (t_X5_survey_35  hc hr oF _ _ _ _ _ _ _ hok hq) [4, 5, 6, 3, 2, 1, 0] rfl
    · have hok := hok.2 c18
      have hq := o_qn hq c18
      refine r_iconst (pc := 21) (v := (-1)) hc dX5_survey_21 rfl ?_
      exact r_iret hc hr rfl dX5_survey_22 (hq (_, _) rfl)
noncomputable def f_X5_type (p1 : Int32) (σ : Sg) : Int32 × Sg :=
  o_ite ((f_X5_isOutside p1 32 126 σ) = 0) (
    o_ite ((σ 30 1) < 60) (
      let σ3 := f_X0_append p1 σ
      ((σ3 30 1), σ3)) (
      ((-3), σ))) (
    ((-1), σ))
def ok_X5_type (p1 : Int32) (σ : Sg) : Prop :=
  (ok_X5_isOutside p1 32 126 σ) ∧ ((((f_X5_isOutside p1 32 126 σ) = 0) →
    (((σ 30 1) < 60) →
      (ok_X0_append p1 σ) ∧ (let σ3 := f_X0_append p1 σ
      True)) ∧ (¬ ((σ 30 1) < 60) →
      True)) ∧ (¬ ((f_X5_isOutside p1 32 126 σ) = 0) →
    True))
set_option maxHeartbeats 4000000 in
set_option maxRecDepth 100000 in
theorem c_X5_type (l : Launch) (G : Gt) {p1 : Int32}  {σ : Sg} (hok : ok_X5_type p1 σ) : o_Ci l G yX5_type cX5_type 2 (some .int) 2 43 [.ref (gAd G 0), .int p1] σ (fun r σ' => r = (f_X5_type p1 σ).1 ∧ σ' = (f_X5_type p1 σ).2) := by
  refine o_Ci.of (by decide +kernel) (Nat.le_of_ble_eq_true rfl) ?_
  intro p e s m args below meth c hc hr
  have hq : ∀ q : Int32 × Sg, q = f_X5_type p1 σ → (fun r σ' => r = (f_X5_type p1 σ).1 ∧ σ' = (f_X5_type p1 σ).2) q.1 q.2 := fun q h => ⟨congrArg Prod.fst h, congrArg Prod.snd h⟩
  refine r_iload_n (pc := 0) hc 1 dX5_type_0 rfl rfl ?_
  refine r_bipush (pc := 1) (v := 32) hc dX5_type_1 (by decide) ?_
  refine r_bipush (pc := 3) (v := 126) hc dX5_type_3 (by decide) ?_
  obtain ⟨hs1, hok⟩ := hok
  refine r_callS_i (pc := 5) (as := [.int _, .int _, .int _]) hc (c_X5_isOutside l _ hs1) mS_X5_isOutside kM_X5_44 ⟨Nat.le_of_ble_eq_true rfl, Nat.le_of_ble_eq_true rfl⟩ ⟨Nat.le_of_ble_eq_true rfl, Nat.le_of_ble_eq_true rfl⟩ rfl rfl (Nat.le_of_ble_eq_true rfl) dX5_type_5 (fun r σ' h => ?_)
  obtain ⟨rfl, rfl⟩ := h
  refine r_if_eq (pc := 8) (tgt := 13) hc dX5_type_8 (by decide) (fun c8 => ?_) (fun c8 => ?_)
  · have hok := hok.1 c8
    have hq := o_qp hq c8
    refine r_aload_n (pc := 13) hc 0 dX5_type_13 rfl rfl ?_
    refine r_getr (pc := 14) (j := 30) hc 4 kk5 (o_lt hc (by decide)) rfl (by decide) kF_X5_40 rfl rfl dX5_type_14 ?_
    refine r_getiN (pc := 17) hc 1 kk0 (o_lt hc (by decide)) rfl (by decide) kN_X5_103 rfl rfl dX5_type_17 ?_
    refine r_bipush (pc := 20) (v := 60) hc dX5_type_20 (by decide) ?_
    refine r_icmp_lt (pc := 22) (tgt := 28) hc dX5_type_22 (by decide) (fun c22 => ?_) (fun c22 => ?_)
    · have hok := hok.1 c22
      have hq := o_qp hq c22
      refine r_aload_n (pc := 28) hc 0 dX5_type_28 rfl rfl ?_
      refine r_getr (pc := 29) (j := 30) hc 4 kk5 (o_lt hc (by decide)) rfl (by decide) kF_X5_40 rfl rfl dX5_type_29 ?_
      refine r_iload_n (pc := 32) hc 1 dX5_type_32 rfl rfl ?_
      obtain ⟨hs2, hok⟩ := hok
      refine r_callVN_v (pc := 33) (as := [.int _]) hc (c_X0_append l _ hs2) kk0 (o_lt hc (by decide)) rfl mV_X0_append kN_X5_217 ⟨Nat.le_of_ble_eq_true rfl, Nat.le_of_ble_eq_true rfl⟩ ⟨Nat.le_of_ble_eq_true rfl, Nat.le_of_ble_eq_true rfl⟩ rfl rfl (Nat.le_of_ble_eq_true rfl) dX5_type_33 (fun σ' h => ?_)
      subst h
      refine r_aload_n (pc := 36) hc 0 dX5_type_36 rfl rfl ?_
      refine r_getr (pc := 37) (j := 30) hc 4 kk5 (o_lt hc (by decide)) rfl (by decide) kF_X5_40 rfl rfl dX5_type_37 ?_
      refine r_getiN (pc := 40) hc 1 kk0 (o_lt hc (by decide)) rfl (by decide) kN_X5_103 rfl rfl dX5_type_40 ?_
      exact r_iret hc hr rfl dX5_type_43 (hq (_, _) rfl)
    · have hok := hok.2 c22
      have hq := o_qn hq c22
      refine r_bipush (pc := 25) (v := (-3)) hc dX5_type_25 (by decide) ?_
      exact r_iret hc hr rfl dX5_type_27 (hq (_, _) rfl)
  · have hok := hok.2 c8
    have hq := o_qn hq c8
    refine r_iconst (pc := 11) (v := (-1)) hc dX5_type_11 rfl ?_
    exact r_iret hc hr rfl dX5_type_12 (hq (_, _) rfl)
noncomputable def f_X5_undo  (σ : Sg) : Int32 × Sg :=
  o_ite ((σ 6 2) = 0) (
    ((-2), σ)) (
    let σ2 := f_X2_restoreLatest σ
    ((σ2 6 2), σ2))
def ok_X5_undo  (σ : Sg) : Prop :=
  (((σ 6 2) = 0) →
    True) ∧ (¬ ((σ 6 2) = 0) →
    (ok_X2_restoreLatest σ) ∧ (let σ2 := f_X2_restoreLatest σ
    True))
set_option maxHeartbeats 4000000 in
set_option maxRecDepth 100000 in
theorem c_X5_undo (l : Launch) (G : Gt)   {σ : Sg} (hok : ok_X5_undo  σ) : o_Ci l G yX5_undo cX5_undo 1 (some .int) 3 66 [.ref (gAd G 0)] σ (fun r σ' => r = (f_X5_undo  σ).1 ∧ σ' = (f_X5_undo  σ).2) := by
  refine o_Ci.of (by decide +kernel) (Nat.le_of_ble_eq_true rfl) ?_
  intro p e s m args below meth c hc hr
  have hq : ∀ q : Int32 × Sg, q = f_X5_undo  σ → (fun r σ' => r = (f_X5_undo  σ).1 ∧ σ' = (f_X5_undo  σ).2) q.1 q.2 := fun q h => ⟨congrArg Prod.fst h, congrArg Prod.snd h⟩
  refine r_aload_n (pc := 0) hc 0 dX5_undo_0 rfl rfl ?_
  refine r_getr (pc := 1) (j := 6) hc 1 kk5 (o_lt hc (by decide)) rfl (by decide) kF_X5_19 rfl rfl dX5_undo_1 ?_
  refine r_getiN (pc := 4) hc 2 kk2 (o_lt hc (by decide)) rfl (by decide) kN_X5_100 rfl rfl dX5_undo_4 ?_
  refine r_if_ne (pc := 7) (tgt := 13) hc dX5_undo_7 (by decide) (fun c7 => ?_) (fun c7 => ?_)
  · have hok := hok.2 c7
    have hq := o_qn hq c7
    refine r_aload_n (pc := 13) hc 0 dX5_undo_13 rfl rfl ?_
    refine r_getr (pc := 14) (j := 6) hc 1 kk5 (o_lt hc (by decide)) rfl (by decide) kF_X5_19 rfl rfl dX5_undo_14 ?_
    refine r_aload_n (pc := 17) hc 0 dX5_undo_17 rfl rfl ?_
    refine r_getr (pc := 18) (j := 1) hc 0 kk5 (o_lt hc (by decide)) rfl (by decide) kF_X5_12 rfl rfl dX5_undo_18 ?_
    obtain ⟨hs1, hok⟩ := hok
    refine r_callVN_v (pc := 21) (as := [.ref (gAd G _)]) hc (c_X2_restoreLatest l _ hs1) kk2 (o_lt hc (by decide)) rfl mV_X2_restoreLatest kN_X5_109 ⟨Nat.le_of_ble_eq_true rfl, Nat.le_of_ble_eq_true rfl⟩ ⟨Nat.le_of_ble_eq_true rfl, Nat.le_of_ble_eq_true rfl⟩ rfl rfl (Nat.le_of_ble_eq_true rfl) dX5_undo_21 (fun σ' h => ?_)
    subst h
    refine r_aload_n (pc := 24) hc 0 dX5_undo_24 rfl rfl ?_
    refine r_getr (pc := 25) (j := 6) hc 1 kk5 (o_lt hc (by decide)) rfl (by decide) kF_X5_19 rfl rfl dX5_undo_25 ?_
    refine r_getiN (pc := 28) hc 2 kk2 (o_lt hc (by decide)) rfl (by decide) kN_X5_100 rfl rfl dX5_undo_28 ?_
    exact r_iret hc hr rfl dX5_undo_31 (hq (_, _) rfl)
  · have hok := hok.1 c7
    have hq := o_qp hq c7
    refine r_bipush (pc := 10) (v := (-2)) hc dX5_undo_10 (by decide) ?_
    exact r_iret hc hr rfl dX5_undo_12 (hq (_, _) rfl)
