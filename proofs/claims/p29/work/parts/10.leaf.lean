set_option linter.all false
noncomputable def f_X5_at (a0 : Nat) (p1 : Int32) (σ : Sg) : Int32 :=
  o_ite (p1 < 0) (
    0) (
    o_ite ((Int32.ofNat (o_len a0)) ≤ p1) (
      0) (
      (o_av σ a0 p1.toNatClampNeg)))
def ok_X5_at (a0 : Nat) (p1 : Int32) (σ : Sg) : Prop :=
  ((p1 < 0) →
    True) ∧ (¬ (p1 < 0) →
    (((Int32.ofNat (o_len a0)) ≤ p1) →
      True) ∧ (¬ ((Int32.ofNat (o_len a0)) ≤ p1) →
      (vp_in p1 (o_len a0)) ∧ (True)))
set_option maxHeartbeats 4000000 in
set_option maxRecDepth 100000 in
theorem c_X5_at (l : Launch) (G : Gt) {a0 : Nat} {p1 : Int32} (ha0 : o_isA a0) {σ : Sg} (hok : ok_X5_at a0 p1 σ) : o_Ci l G yX5_at cX5_at 2 (some .int) 0 0 [.ref (gAd G a0), .int p1] σ (fun r σ' => r = f_X5_at a0 p1 σ ∧ σ' = σ) := by
  refine o_Ci.of (by decide +kernel) (Nat.le_of_ble_eq_true rfl) ?_
  intro p e s m args below meth c hc hr
  have hq : ∀ q : Int32, q = f_X5_at a0 p1 σ → (fun r σ' => r = f_X5_at a0 p1 σ ∧ σ' = σ) q σ := fun q h => ⟨h, rfl⟩
  refine r_iload_n (pc := 0) hc 1 dX5_at_0 rfl rfl ?_
  refine r_if_lt (pc := 1) (tgt := 16) hc dX5_at_1 (by decide) (fun c1 => ?_) (fun c1 => ?_)
  · have hok := hok.1 c1
    have hq := o_qp hq c1
    refine r_iconst (pc := 16) (v := 0) hc dX5_at_16 rfl ?_
    exact r_iret hc hr rfl dX5_at_17 (hq _ rfl)
  · have hok := hok.2 c1
    have hq := o_qn hq c1
    refine r_iload_n (pc := 4) hc 1 dX5_at_4 rfl rfl ?_
    refine r_aload_n (pc := 5) hc 0 dX5_at_5 rfl rfl ?_
    refine r_alenG (pc := 6) hc ha0 rfl dX5_at_6 ?_
    refine r_icmp_ge (pc := 7) (tgt := 16) hc dX5_at_7 (by decide) (fun c7 => ?_) (fun c7 => ?_)
    · have hok := hok.1 c7
      have hq := o_qp hq c7
      refine r_iconst (pc := 16) (v := 0) hc dX5_at_16 rfl ?_
      exact r_iret hc hr rfl dX5_at_17 (hq _ rfl)
    · have hok := hok.2 c7
      have hq := o_qn hq c7
      refine r_aload_n (pc := 10) hc 0 dX5_at_10 rfl rfl ?_
      refine r_iload_n (pc := 11) hc 1 dX5_at_11 rfl rfl ?_
      obtain ⟨hs1, hok⟩ := hok
      refine r_ialdG (pc := 12) (k := _) hc ha0 hs1 rfl dX5_at_12 ?_
      refine r_goto (pc := 13) (tgt := 17) hc dX5_at_13 (by decide) ?_
      exact r_iret hc hr rfl dX5_at_17 (hq _ rfl)
noncomputable def f_X5_cell (p0 : Int32) (p1 : Int32) (σ : Sg) : Int32 :=
  ((p0 * 8) + p1)
def ok_X5_cell (p0 : Int32) (p1 : Int32) (σ : Sg) : Prop :=
  True
set_option maxHeartbeats 4000000 in
set_option maxRecDepth 100000 in
theorem c_X5_cell (l : Launch) (G : Gt) {p0 : Int32} {p1 : Int32}  {σ : Sg} (hok : ok_X5_cell p0 p1 σ) : o_Ci l G yX5_cell cX5_cell 2 (some .int) 0 0 [.int p0, .int p1] σ (fun r σ' => r = f_X5_cell p0 p1 σ ∧ σ' = σ) := by
  refine o_Ci.of (by decide +kernel) (Nat.le_of_ble_eq_true rfl) ?_
  intro p e s m args below meth c hc hr
  have hq : ∀ q : Int32, q = f_X5_cell p0 p1 σ → (fun r σ' => r = f_X5_cell p0 p1 σ ∧ σ' = σ) q σ := fun q h => ⟨h, rfl⟩
  refine r_iload_n (pc := 0) hc 0 dX5_cell_0 rfl rfl ?_
  refine r_bipush (pc := 1) (v := 8) hc dX5_cell_1 (by decide) ?_
  refine r_imul (pc := 3) hc dX5_cell_3 ?_
  refine r_iload_n (pc := 4) hc 1 dX5_cell_4 rfl rfl ?_
  refine r_iadd (pc := 5) hc dX5_cell_5 ?_
  exact r_iret hc hr rfl dX5_cell_6 (hq _ rfl)
noncomputable def f_X5_isOutside (p0 : Int32) (p1 : Int32) (p2 : Int32) (σ : Sg) : Int32 :=
  o_ite (p0 < p1) (
    1) (
    o_ite (p0 ≤ p2) (
      0) (
      1))
def ok_X5_isOutside (p0 : Int32) (p1 : Int32) (p2 : Int32) (σ : Sg) : Prop :=
  ((p0 < p1) →
    True) ∧ (¬ (p0 < p1) →
    ((p0 ≤ p2) →
      True) ∧ (¬ (p0 ≤ p2) →
      True))
set_option maxHeartbeats 4000000 in
set_option maxRecDepth 100000 in
theorem c_X5_isOutside (l : Launch) (G : Gt) {p0 : Int32} {p1 : Int32} {p2 : Int32}  {σ : Sg} (hok : ok_X5_isOutside p0 p1 p2 σ) : o_Ci l G yX5_isOutside cX5_isOutside 3 (some .boolean) 0 0 [.int p0, .int p1, .int p2] σ (fun r σ' => r = f_X5_isOutside p0 p1 p2 σ ∧ σ' = σ) := by
  refine o_Ci.of (by decide +kernel) (Nat.le_of_ble_eq_true rfl) ?_
  intro p e s m args below meth c hc hr
  have hq : ∀ q : Int32, q = f_X5_isOutside p0 p1 p2 σ → (fun r σ' => r = f_X5_isOutside p0 p1 p2 σ ∧ σ' = σ) q σ := fun q h => ⟨h, rfl⟩
  refine r_iload_n (pc := 0) hc 0 dX5_isOutside_0 rfl rfl ?_
  refine r_iload_n (pc := 1) hc 1 dX5_isOutside_1 rfl rfl ?_
  refine r_icmp_lt (pc := 2) (tgt := 10) hc dX5_isOutside_2 (by decide) (fun c2 => ?_) (fun c2 => ?_)
  · have hok := hok.1 c2
    have hq := o_qp hq c2
    refine r_iconst (pc := 10) (v := 1) hc dX5_isOutside_10 rfl ?_
    refine r_goto (pc := 11) (tgt := 15) hc dX5_isOutside_11 (by decide) ?_
    exact r_iret hc hr rfl dX5_isOutside_15 (hq _ rfl)
  · have hok := hok.2 c2
    have hq := o_qn hq c2
    refine r_iload_n (pc := 5) hc 0 dX5_isOutside_5 rfl rfl ?_
    refine r_iload_n (pc := 6) hc 2 dX5_isOutside_6 rfl rfl ?_
    refine r_icmp_le (pc := 7) (tgt := 14) hc dX5_isOutside_7 (by decide) (fun c7 => ?_) (fun c7 => ?_)
    · have hok := hok.1 c7
      have hq := o_qp hq c7
      refine r_iconst (pc := 14) (v := 0) hc dX5_isOutside_14 rfl ?_
      exact r_iret hc hr rfl dX5_isOutside_15 (hq _ rfl)
    · have hok := hok.2 c7
      have hq := o_qn hq c7
      refine r_iconst (pc := 10) (v := 1) hc dX5_isOutside_10 rfl ?_
      refine r_goto (pc := 11) (tgt := 15) hc dX5_isOutside_11 (by decide) ?_
      exact r_iret hc hr rfl dX5_isOutside_15 (hq _ rfl)
noncomputable def f_X5_isTrack (p0 : Int32) (σ : Sg) : Int32 :=
  o_ite ((f_X5_isOutside p0 0 2 σ) = 0) (
    1) (
    0)
def ok_X5_isTrack (p0 : Int32) (σ : Sg) : Prop :=
  (ok_X5_isOutside p0 0 2 σ) ∧ ((((f_X5_isOutside p0 0 2 σ) = 0) →
    True) ∧ (¬ ((f_X5_isOutside p0 0 2 σ) = 0) →
    True))
set_option maxHeartbeats 4000000 in
set_option maxRecDepth 100000 in
theorem c_X5_isTrack (l : Launch) (G : Gt) {p0 : Int32}  {σ : Sg} (hok : ok_X5_isTrack p0 σ) : o_Ci l G yX5_isTrack cX5_isTrack 1 (some .boolean) 1 22 [.int p0] σ (fun r σ' => r = f_X5_isTrack p0 σ ∧ σ' = σ) := by
  refine o_Ci.of (by decide +kernel) (Nat.le_of_ble_eq_true rfl) ?_
  intro p e s m args below meth c hc hr
  have hq : ∀ q : Int32, q = f_X5_isTrack p0 σ → (fun r σ' => r = f_X5_isTrack p0 σ ∧ σ' = σ) q σ := fun q h => ⟨h, rfl⟩
  refine r_iload_n (pc := 0) hc 0 dX5_isTrack_0 rfl rfl ?_
  refine r_iconst (pc := 1) (v := 0) hc dX5_isTrack_1 rfl ?_
  refine r_iconst (pc := 2) (v := 2) hc dX5_isTrack_2 rfl ?_
  obtain ⟨hs1, hok⟩ := hok
  refine r_callS_i (pc := 3) (as := [.int _, .int _, .int _]) hc (c_X5_isOutside l _ hs1) mS_X5_isOutside kM_X5_44 ⟨Nat.le_of_ble_eq_true rfl, Nat.le_of_ble_eq_true rfl⟩ ⟨Nat.le_of_ble_eq_true rfl, Nat.le_of_ble_eq_true rfl⟩ rfl rfl (Nat.le_of_ble_eq_true rfl) dX5_isTrack_3 (fun r σ' h => ?_)
  obtain ⟨rfl, rfl⟩ := h
  refine r_if_ne (pc := 6) (tgt := 13) hc dX5_isTrack_6 (by decide) (fun c6 => ?_) (fun c6 => ?_)
  · have hok := hok.2 c6
    have hq := o_qn hq c6
    refine r_iconst (pc := 13) (v := 0) hc dX5_isTrack_13 rfl ?_
    exact r_iret hc hr rfl dX5_isTrack_14 (hq _ rfl)
  · have hok := hok.1 c6
    have hq := o_qp hq c6
    refine r_iconst (pc := 9) (v := 1) hc dX5_isTrack_9 rfl ?_
    refine r_goto (pc := 10) (tgt := 14) hc dX5_isTrack_10 (by decide) ?_
    exact r_iret hc hr rfl dX5_isTrack_14 (hq _ rfl)
noncomputable def f_X5_isCell (p0 : Int32) (p1 : Int32) (σ : Sg) : Int32 :=
  o_ite ((f_X5_isTrack p0 σ) = 0) (
    0) (
    o_ite ((f_X5_isOutside p1 0 7 σ) = 0) (
      1) (
      0))
def ok_X5_isCell (p0 : Int32) (p1 : Int32) (σ : Sg) : Prop :=
  (ok_X5_isTrack p0 σ) ∧ ((((f_X5_isTrack p0 σ) = 0) →
    True) ∧ (¬ ((f_X5_isTrack p0 σ) = 0) →
    (ok_X5_isOutside p1 0 7 σ) ∧ ((((f_X5_isOutside p1 0 7 σ) = 0) →
      True) ∧ (¬ ((f_X5_isOutside p1 0 7 σ) = 0) →
      True))))
set_option maxHeartbeats 4000000 in
set_option maxRecDepth 100000 in
theorem c_X5_isCell (l : Launch) (G : Gt) {p0 : Int32} {p1 : Int32}  {σ : Sg} (hok : ok_X5_isCell p0 p1 σ) : o_Ci l G yX5_isCell cX5_isCell 2 (some .boolean) 2 42 [.int p0, .int p1] σ (fun r σ' => r = f_X5_isCell p0 p1 σ ∧ σ' = σ) := by
  refine o_Ci.of (by decide +kernel) (Nat.le_of_ble_eq_true rfl) ?_
  intro p e s m args below meth c hc hr
  have hq : ∀ q : Int32, q = f_X5_isCell p0 p1 σ → (fun r σ' => r = f_X5_isCell p0 p1 σ ∧ σ' = σ) q σ := fun q h => ⟨h, rfl⟩
  refine r_iload_n (pc := 0) hc 0 dX5_isCell_0 rfl rfl ?_
  obtain ⟨hs1, hok⟩ := hok
  refine r_callS_i (pc := 1) (as := [.int _]) hc (c_X5_isTrack l _ hs1) mS_X5_isTrack kM_X5_132 ⟨Nat.le_of_ble_eq_true rfl, Nat.le_of_ble_eq_true rfl⟩ ⟨Nat.le_of_ble_eq_true rfl, Nat.le_of_ble_eq_true rfl⟩ rfl rfl (Nat.le_of_ble_eq_true rfl) dX5_isCell_1 (fun r σ' h => ?_)
  obtain ⟨rfl, rfl⟩ := h
  refine r_if_eq (pc := 4) (tgt := 21) hc dX5_isCell_4 (by decide) (fun c4 => ?_) (fun c4 => ?_)
  · have hok := hok.1 c4
    have hq := o_qp hq c4
    refine r_iconst (pc := 21) (v := 0) hc dX5_isCell_21 rfl ?_
    exact r_iret hc hr rfl dX5_isCell_22 (hq _ rfl)
  · have hok := hok.2 c4
    have hq := o_qn hq c4
    refine r_iload_n (pc := 7) hc 1 dX5_isCell_7 rfl rfl ?_
    refine r_iconst (pc := 8) (v := 0) hc dX5_isCell_8 rfl ?_
    refine r_bipush (pc := 9) (v := 7) hc dX5_isCell_9 (by decide) ?_
    obtain ⟨hs2, hok⟩ := hok
    refine r_callS_i (pc := 11) (as := [.int _, .int _, .int _]) hc (c_X5_isOutside l _ hs2) mS_X5_isOutside kM_X5_44 ⟨Nat.le_of_ble_eq_true rfl, Nat.le_of_ble_eq_true rfl⟩ ⟨Nat.le_of_ble_eq_true rfl, Nat.le_of_ble_eq_true rfl⟩ rfl rfl (Nat.le_of_ble_eq_true rfl) dX5_isCell_11 (fun r σ' h => ?_)
    obtain ⟨rfl, rfl⟩ := h
    refine r_if_ne (pc := 14) (tgt := 21) hc dX5_isCell_14 (by decide) (fun c14 => ?_) (fun c14 => ?_)
    · have hok := hok.2 c14
      have hq := o_qn hq c14
      refine r_iconst (pc := 21) (v := 0) hc dX5_isCell_21 rfl ?_
      exact r_iret hc hr rfl dX5_isCell_22 (hq _ rfl)
    · have hok := hok.1 c14
      have hq := o_qp hq c14
      refine r_iconst (pc := 17) (v := 1) hc dX5_isCell_17 rfl ?_
      refine r_goto (pc := 18) (tgt := 22) hc dX5_isCell_18 (by decide) ?_
      exact r_iret hc hr rfl dX5_isCell_22 (hq _ rfl)
noncomputable def f_X5_remainder (p0 : Int32) (p1 : Int32) (σ : Sg) : Int32 :=
  o_ite (0 < p1) (
    o_ite (0 ≤ (p0 - p0 / p1 * p1)) (
      (p0 - p0 / p1 * p1)) (
      ((p0 - p0 / p1 * p1) + p1))) (
    0)
def ok_X5_remainder (p0 : Int32) (p1 : Int32) (σ : Sg) : Prop :=
  ((0 < p1) →
    (¬ p1 = 0) ∧ (((0 ≤ (p0 - p0 / p1 * p1)) →
      True) ∧ (¬ (0 ≤ (p0 - p0 / p1 * p1)) →
      True))) ∧ (¬ (0 < p1) →
    True)
set_option maxHeartbeats 4000000 in
set_option maxRecDepth 100000 in
theorem c_X5_remainder (l : Launch) (G : Gt) {p0 : Int32} {p1 : Int32}  {σ : Sg} (hok : ok_X5_remainder p0 p1 σ) : o_Ci l G yX5_remainder cX5_remainder 3 (some .int) 0 0 [.int p0, .int p1] σ (fun r σ' => r = f_X5_remainder p0 p1 σ ∧ σ' = σ) := by
  refine o_Ci.of (by decide +kernel) (Nat.le_of_ble_eq_true rfl) ?_
  intro p e s m args below meth c hc hr
  have hq : ∀ q : Int32, q = f_X5_remainder p0 p1 σ → (fun r σ' => r = f_X5_remainder p0 p1 σ ∧ σ' = σ) q σ := fun q h => ⟨h, rfl⟩
  refine r_iload_n (pc := 0) hc 1 dX5_remainder_0 rfl rfl ?_
  refine r_if_gt (pc := 1) (tgt := 6) hc dX5_remainder_1 (by decide) (fun c1 => ?_) (fun c1 => ?_)
  · have hok := hok.1 c1
    have hq := o_qp hq c1
    refine r_iload_n (pc := 6) hc 0 dX5_remainder_6 rfl rfl ?_
    refine r_iload_n (pc := 7) hc 1 dX5_remainder_7 rfl rfl ?_
    obtain ⟨hs1, hok⟩ := hok
    refine r_irem (pc := 8) hc dX5_remainder_8 hs1 ?_
    refine r_istore_n (pc := 9) (lv' := [(2, _), (0, _), (1, _)]) hc dX5_remainder_9 rfl (by decide) rfl ?_
    refine r_iload_n (pc := 10) hc 0 dX5_remainder_10 rfl rfl ?_
    refine r_if_ge (pc := 11) (tgt := 20) hc dX5_remainder_11 (by decide) (fun c11 => ?_) (fun c11 => ?_)
    · have hok := hok.1 c11
      have hq := o_qp hq c11
      refine r_iload_n (pc := 20) hc 0 dX5_remainder_20 rfl rfl ?_
      exact r_iret hc hr rfl dX5_remainder_21 (hq _ rfl)
    · have hok := hok.2 c11
      have hq := o_qn hq c11
      refine r_iload_n (pc := 14) hc 0 dX5_remainder_14 rfl rfl ?_
      refine r_iload_n (pc := 15) hc 2 dX5_remainder_15 rfl rfl ?_
      refine r_iadd (pc := 16) hc dX5_remainder_16 ?_
      refine r_goto (pc := 17) (tgt := 21) hc dX5_remainder_17 (by decide) ?_
      exact r_iret hc hr rfl dX5_remainder_21 (hq _ rfl)
  · have hok := hok.2 c1
    have hq := o_qn hq c1
    refine r_iconst (pc := 4) (v := 0) hc dX5_remainder_4 rfl ?_
    exact r_iret hc hr rfl dX5_remainder_5 (hq _ rfl)
noncomputable def f_X5_distance (p0 : Int32) (p1 : Int32) (p2 : Int32) (σ : Sg) : Int32 :=
  (if (f_X5_remainder (p1 - p0) p2 σ) < (f_X5_remainder (p0 - p1) p2 σ) then (f_X5_remainder (p1 - p0) p2 σ) else (f_X5_remainder (p0 - p1) p2 σ))
def ok_X5_distance (p0 : Int32) (p1 : Int32) (p2 : Int32) (σ : Sg) : Prop :=
  (ok_X5_remainder (p0 - p1) p2 σ) ∧ ((ok_X5_remainder (p1 - p0) p2 σ) ∧ (True))
set_option maxHeartbeats 4000000 in
set_option maxRecDepth 100000 in
theorem c_X5_distance (l : Launch) (G : Gt) {p0 : Int32} {p1 : Int32} {p2 : Int32}  {σ : Sg} (hok : ok_X5_distance p0 p1 p2 σ) : o_Ci l G yX5_distance cX5_distance 3 (some .int) 1 22 [.int p0, .int p1, .int p2] σ (fun r σ' => r = f_X5_distance p0 p1 p2 σ ∧ σ' = σ) := by
  refine o_Ci.of (by decide +kernel) (Nat.le_of_ble_eq_true rfl) ?_
  intro p e s m args below meth c hc hr
  have hq : ∀ q : Int32, q = f_X5_distance p0 p1 p2 σ → (fun r σ' => r = f_X5_distance p0 p1 p2 σ ∧ σ' = σ) q σ := fun q h => ⟨h, rfl⟩
  refine r_iload_n (pc := 0) hc 0 dX5_distance_0 rfl rfl ?_
  refine r_iload_n (pc := 1) hc 1 dX5_distance_1 rfl rfl ?_
  refine r_isub (pc := 2) hc dX5_distance_2 ?_
  refine r_iload_n (pc := 3) hc 2 dX5_distance_3 rfl rfl ?_
  obtain ⟨hs1, hok⟩ := hok
  refine r_callS_i (pc := 4) (as := [.int _, .int _]) hc (c_X5_remainder l _ hs1) mS_X5_remainder kM_X5_168 ⟨Nat.le_of_ble_eq_true rfl, Nat.le_of_ble_eq_true rfl⟩ ⟨Nat.le_of_ble_eq_true rfl, Nat.le_of_ble_eq_true rfl⟩ rfl rfl (Nat.le_of_ble_eq_true rfl) dX5_distance_4 (fun r σ' h => ?_)
  obtain ⟨rfl, rfl⟩ := h
  refine r_iload_n (pc := 7) hc 1 dX5_distance_7 rfl rfl ?_
  refine r_iload_n (pc := 8) hc 0 dX5_distance_8 rfl rfl ?_
  refine r_isub (pc := 9) hc dX5_distance_9 ?_
  refine r_iload_n (pc := 10) hc 2 dX5_distance_10 rfl rfl ?_
  obtain ⟨hs2, hok⟩ := hok
  refine r_callS_i (pc := 11) (as := [.int _, .int _]) hc (c_X5_remainder l _ hs2) mS_X5_remainder kM_X5_168 ⟨Nat.le_of_ble_eq_true rfl, Nat.le_of_ble_eq_true rfl⟩ ⟨Nat.le_of_ble_eq_true rfl, Nat.le_of_ble_eq_true rfl⟩ rfl rfl (Nat.le_of_ble_eq_true rfl) dX5_distance_11 (fun r σ' h => ?_)
  obtain ⟨rfl, rfl⟩ := h
  refine r_min (pc := 14) hc kM_X5_239 (Nat.le_of_ble_eq_true rfl) (Nat.le_of_ble_eq_true rfl) ⟨Nat.le_of_ble_eq_true rfl, Nat.le_of_ble_eq_true rfl⟩ dX5_distance_14 ?_
  exact r_iret hc hr rfl dX5_distance_17 (hq _ rfl)
noncomputable def f_X5_deviation (p0 : Int32) (p1 : Int32) (p2 : Int32) (p3 : Int32) (σ : Sg) : Int32 :=
  (if (f_X5_distance p0 p1 (f_X5_at 41 0 σ) σ) < (if (f_X5_distance p0 p2 (f_X5_at 41 1 σ) σ) < (f_X5_distance p0 p3 (f_X5_at 41 2 σ) σ) then (f_X5_distance p0 p3 (f_X5_at 41 2 σ) σ) else (f_X5_distance p0 p2 (f_X5_at 41 1 σ) σ)) then (if (f_X5_distance p0 p2 (f_X5_at 41 1 σ) σ) < (f_X5_distance p0 p3 (f_X5_at 41 2 σ) σ) then (f_X5_distance p0 p3 (f_X5_at 41 2 σ) σ) else (f_X5_distance p0 p2 (f_X5_at 41 1 σ) σ)) else (f_X5_distance p0 p1 (f_X5_at 41 0 σ) σ))
def ok_X5_deviation (p0 : Int32) (p1 : Int32) (p2 : Int32) (p3 : Int32) (σ : Sg) : Prop :=
  (ok_X5_at 41 0 σ) ∧ ((ok_X5_distance p0 p1 (f_X5_at 41 0 σ) σ) ∧ ((ok_X5_at 41 1 σ) ∧ ((ok_X5_distance p0 p2 (f_X5_at 41 1 σ) σ) ∧ ((ok_X5_at 41 2 σ) ∧ ((ok_X5_distance p0 p3 (f_X5_at 41 2 σ) σ) ∧ (True))))))
set_option maxHeartbeats 4000000 in
set_option maxRecDepth 100000 in
theorem c_X5_deviation (l : Launch) (G : Gt) {p0 : Int32} {p1 : Int32} {p2 : Int32} {p3 : Int32}  {σ : Sg} (hok : ok_X5_deviation p0 p1 p2 p3 σ) : o_Ci l G yX5_deviation cX5_deviation 7 (some .int) 2 44 [.int p0, .int p1, .int p2, .int p3] σ (fun r σ' => r = f_X5_deviation p0 p1 p2 p3 σ ∧ σ' = σ) := by
  refine o_Ci.of (by decide +kernel) (Nat.le_of_ble_eq_true rfl) ?_
  intro p e s m args below meth c hc hr
  have hq : ∀ q : Int32, q = f_X5_deviation p0 p1 p2 p3 σ → (fun r σ' => r = f_X5_deviation p0 p1 p2 p3 σ ∧ σ' = σ) q σ := fun q h => ⟨h, rfl⟩
  refine r_iload_n (pc := 0) hc 0 dX5_deviation_0 rfl rfl ?_
  refine r_iload_n (pc := 1) hc 1 dX5_deviation_1 rfl rfl ?_
  refine r_gets (pc := 2) hc 41 (by decide) (by decide) rfl kF_X5_165 dX5_deviation_2 ?_
  refine r_iconst (pc := 5) (v := 0) hc dX5_deviation_5 rfl ?_
  obtain ⟨hs1, hok⟩ := hok
  refine r_callS_i (pc := 6) (as := [.ref (gAd G _), .int _]) hc (c_X5_at l _ (Or.inr ⟨by decide, by decide⟩) hs1) mS_X5_at kM_X5_124 ⟨Nat.le_of_ble_eq_true rfl, Nat.le_of_ble_eq_true rfl⟩ ⟨Nat.le_of_ble_eq_true rfl, Nat.le_of_ble_eq_true rfl⟩ rfl rfl (Nat.le_of_ble_eq_true rfl) dX5_deviation_6 (fun r σ' h => ?_)
  obtain ⟨rfl, rfl⟩ := h
  obtain ⟨hs2, hok⟩ := hok
  refine r_callS_i (pc := 9) (as := [.int _, .int _, .int _]) hc (c_X5_distance l _ hs2) mS_X5_distance kM_X5_214 ⟨Nat.le_of_ble_eq_true rfl, Nat.le_of_ble_eq_true rfl⟩ ⟨Nat.le_of_ble_eq_true rfl, Nat.le_of_ble_eq_true rfl⟩ rfl rfl (Nat.le_of_ble_eq_true rfl) dX5_deviation_9 (fun r σ' h => ?_)
  obtain ⟨rfl, rfl⟩ := h
  refine r_istore (pc := 12) (lv' := [(4, _), (0, _), (1, _), (2, _), (3, _)]) hc dX5_deviation_12 (by decide) rfl ?_
  refine r_iload_n (pc := 14) hc 1 dX5_deviation_14 rfl rfl ?_
  refine r_iload_n (pc := 15) hc 3 dX5_deviation_15 rfl rfl ?_
  refine r_gets (pc := 16) hc 41 (by decide) (by decide) rfl kF_X5_165 dX5_deviation_16 ?_
  refine r_iconst (pc := 19) (v := 1) hc dX5_deviation_19 rfl ?_
  obtain ⟨hs3, hok⟩ := hok
  refine r_callS_i (pc := 20) (as := [.ref (gAd G _), .int _]) hc (c_X5_at l _ (Or.inr ⟨by decide, by decide⟩) hs3) mS_X5_at kM_X5_124 ⟨Nat.le_of_ble_eq_true rfl, Nat.le_of_ble_eq_true rfl⟩ ⟨Nat.le_of_ble_eq_true rfl, Nat.le_of_ble_eq_true rfl⟩ rfl rfl (Nat.le_of_ble_eq_true rfl) dX5_deviation_20 (fun r σ' h => ?_)
  obtain ⟨rfl, rfl⟩ := h
  obtain ⟨hs4, hok⟩ := hok
  refine r_callS_i (pc := 23) (as := [.int _, .int _, .int _]) hc (c_X5_distance l _ hs4) mS_X5_distance kM_X5_214 ⟨Nat.le_of_ble_eq_true rfl, Nat.le_of_ble_eq_true rfl⟩ ⟨Nat.le_of_ble_eq_true rfl, Nat.le_of_ble_eq_true rfl⟩ rfl rfl (Nat.le_of_ble_eq_true rfl) dX5_deviation_23 (fun r σ' h => ?_)
  obtain ⟨rfl, rfl⟩ := h
  refine r_istore (pc := 26) (lv' := [(5, _), (4, _), (0, _), (1, _), (2, _), (3, _)]) hc dX5_deviation_26 (by decide) rfl ?_
  refine r_iload_n (pc := 28) hc 2 dX5_deviation_28 rfl rfl ?_
  refine r_iload_n (pc := 29) hc 5 dX5_deviation_29 rfl rfl ?_
  refine r_gets (pc := 30) hc 41 (by decide) (by decide) rfl kF_X5_165 dX5_deviation_30 ?_
  refine r_iconst (pc := 33) (v := 2) hc dX5_deviation_33 rfl ?_
  obtain ⟨hs5, hok⟩ := hok
  refine r_callS_i (pc := 34) (as := [.ref (gAd G _), .int _]) hc (c_X5_at l _ (Or.inr ⟨by decide, by decide⟩) hs5) mS_X5_at kM_X5_124 ⟨Nat.le_of_ble_eq_true rfl, Nat.le_of_ble_eq_true rfl⟩ ⟨Nat.le_of_ble_eq_true rfl, Nat.le_of_ble_eq_true rfl⟩ rfl rfl (Nat.le_of_ble_eq_true rfl) dX5_deviation_34 (fun r σ' h => ?_)
  obtain ⟨rfl, rfl⟩ := h
  obtain ⟨hs6, hok⟩ := hok
  refine r_callS_i (pc := 37) (as := [.int _, .int _, .int _]) hc (c_X5_distance l _ hs6) mS_X5_distance kM_X5_214 ⟨Nat.le_of_ble_eq_true rfl, Nat.le_of_ble_eq_true rfl⟩ ⟨Nat.le_of_ble_eq_true rfl, Nat.le_of_ble_eq_true rfl⟩ rfl rfl (Nat.le_of_ble_eq_true rfl) dX5_deviation_37 (fun r σ' h => ?_)
  obtain ⟨rfl, rfl⟩ := h
  refine r_istore (pc := 40) (lv' := [(6, _), (5, _), (4, _), (0, _), (1, _), (2, _), (3, _)]) hc dX5_deviation_40 (by decide) rfl ?_
  refine r_iload (pc := 42) hc 2 dX5_deviation_42 rfl ?_
  refine r_iload (pc := 44) hc 1 dX5_deviation_44 rfl ?_
  refine r_iload (pc := 46) hc 0 dX5_deviation_46 rfl ?_
  refine r_max (pc := 48) hc kM_X5_196 (Nat.le_of_ble_eq_true rfl) (Nat.le_of_ble_eq_true rfl) ⟨Nat.le_of_ble_eq_true rfl, Nat.le_of_ble_eq_true rfl⟩ dX5_deviation_48 ?_
  refine r_max (pc := 51) hc kM_X5_196 (Nat.le_of_ble_eq_true rfl) (Nat.le_of_ble_eq_true rfl) ⟨Nat.le_of_ble_eq_true rfl, Nat.le_of_ble_eq_true rfl⟩ dX5_deviation_51 ?_
  exact r_iret hc hr rfl dX5_deviation_54 (hq _ rfl)
noncomputable def f_X5_isReading (p0 : Int32) (p1 : Int32) (σ : Sg) : Int32 :=
  o_ite ((f_X5_isOutside p1 0 ((f_X5_at 41 p0 σ) - 1) σ) = 0) (
    1) (
    0)
def ok_X5_isReading (p0 : Int32) (p1 : Int32) (σ : Sg) : Prop :=
  (ok_X5_at 41 p0 σ) ∧ ((ok_X5_isOutside p1 0 ((f_X5_at 41 p0 σ) - 1) σ) ∧ ((((f_X5_isOutside p1 0 ((f_X5_at 41 p0 σ) - 1) σ) = 0) →
    True) ∧ (¬ ((f_X5_isOutside p1 0 ((f_X5_at 41 p0 σ) - 1) σ) = 0) →
    True)))
set_option maxHeartbeats 4000000 in
set_option maxRecDepth 100000 in
theorem c_X5_isReading (l : Launch) (G : Gt) {p0 : Int32} {p1 : Int32}  {σ : Sg} (hok : ok_X5_isReading p0 p1 σ) : o_Ci l G yX5_isReading cX5_isReading 2 (some .boolean) 1 22 [.int p0, .int p1] σ (fun r σ' => r = f_X5_isReading p0 p1 σ ∧ σ' = σ) := by
  refine o_Ci.of (by decide +kernel) (Nat.le_of_ble_eq_true rfl) ?_
  intro p e s m args below meth c hc hr
  have hq : ∀ q : Int32, q = f_X5_isReading p0 p1 σ → (fun r σ' => r = f_X5_isReading p0 p1 σ ∧ σ' = σ) q σ := fun q h => ⟨h, rfl⟩
  refine r_iload_n (pc := 0) hc 1 dX5_isReading_0 rfl rfl ?_
  refine r_iconst (pc := 1) (v := 0) hc dX5_isReading_1 rfl ?_
  refine r_gets (pc := 2) hc 41 (by decide) (by decide) rfl kF_X5_165 dX5_isReading_2 ?_
  refine r_iload_n (pc := 5) hc 0 dX5_isReading_5 rfl rfl ?_
  obtain ⟨hs1, hok⟩ := hok
  refine r_callS_i (pc := 6) (as := [.ref (gAd G _), .int _]) hc (c_X5_at l _ (Or.inr ⟨by decide, by decide⟩) hs1) mS_X5_at kM_X5_124 ⟨Nat.le_of_ble_eq_true rfl, Nat.le_of_ble_eq_true rfl⟩ ⟨Nat.le_of_ble_eq_true rfl, Nat.le_of_ble_eq_true rfl⟩ rfl rfl (Nat.le_of_ble_eq_true rfl) dX5_isReading_6 (fun r σ' h => ?_)
  obtain ⟨rfl, rfl⟩ := h
  refine r_iconst (pc := 9) (v := 1) hc dX5_isReading_9 rfl ?_
  refine r_isub (pc := 10) hc dX5_isReading_10 ?_
  obtain ⟨hs2, hok⟩ := hok
  refine r_callS_i (pc := 11) (as := [.int _, .int _, .int _]) hc (c_X5_isOutside l _ hs2) mS_X5_isOutside kM_X5_44 ⟨Nat.le_of_ble_eq_true rfl, Nat.le_of_ble_eq_true rfl⟩ ⟨Nat.le_of_ble_eq_true rfl, Nat.le_of_ble_eq_true rfl⟩ rfl rfl (Nat.le_of_ble_eq_true rfl) dX5_isReading_11 (fun r σ' h => ?_)
  obtain ⟨rfl, rfl⟩ := h
  refine r_if_ne (pc := 14) (tgt := 21) hc dX5_isReading_14 (by decide) (fun c14 => ?_) (fun c14 => ?_)
  · have hok := hok.2 c14
    have hq := o_qn hq c14
    refine r_iconst (pc := 21) (v := 0) hc dX5_isReading_21 rfl ?_
    exact r_iret hc hr rfl dX5_isReading_22 (hq _ rfl)
  · have hok := hok.1 c14
    have hq := o_qp hq c14
    refine r_iconst (pc := 17) (v := 1) hc dX5_isReading_17 rfl ?_
    refine r_goto (pc := 18) (tgt := 22) hc dX5_isReading_18 (by decide) ?_
    exact r_iret hc hr rfl dX5_isReading_22 (hq _ rfl)
noncomputable def f_X5_nearestAngle_51 (K : Int32 → Int32 → Int32 → Int32 → Int32 → Int32 → Sg → Int32) (x0 : Int32) (x1 : Int32) (x2 : Int32) (x3 : Int32) (x4 : Int32) (x5 : Int32) (x6 : Int32) (σ : Sg) : Int32 :=
  let v1 := (x5 + (if 1 < ((x6 - x4) + 1) then ((x6 - x4) + 1) else 1))
  K x0 x1 x2 x3 x4 v1 σ
def ok_X5_nearestAngle_51 (okK : Int32 → Int32 → Int32 → Int32 → Int32 → Int32 → Sg → Prop) (x0 : Int32) (x1 : Int32) (x2 : Int32) (x3 : Int32) (x4 : Int32) (x5 : Int32) (x6 : Int32) (σ : Sg) : Prop :=
  let v1 := (x5 + (if 1 < ((x6 - x4) + 1) then ((x6 - x4) + 1) else 1))
  okK x0 x1 x2 x3 x4 v1 σ
noncomputable def f_X5_nearestAngle_14  : Nat → Int32 → Int32 → Int32 → Int32 → Int32 → Int32 → Sg → Int32
  | 0 => fun _ _ _ _ _ _ σ => 0
  | n + 1 => fun x0 x1 x2 x3 x4 x5 σ =>
    o_ite (4080 ≤ x5) (
      x3) (
      o_ite (x4 ≤ 0) (
        x3) (
        o_ite (x4 ≤ (f_X5_deviation x5 x0 x1 x2 σ)) (
          f_X5_nearestAngle_51 (f_X5_nearestAngle_14 n) x0 x1 x2 x3 x4 x5 (f_X5_deviation x5 x0 x1 x2 σ) σ) (
          f_X5_nearestAngle_51 (f_X5_nearestAngle_14 n) x0 x1 x2 x5 (f_X5_deviation x5 x0 x1 x2 σ) x5 (f_X5_deviation x5 x0 x1 x2 σ) σ)))
def ok_X5_nearestAngle_14  : Nat → Int32 → Int32 → Int32 → Int32 → Int32 → Int32 → Sg → Prop
  | 0 => fun _ _ _ _ _ _ _ => False
  | n + 1 => fun x0 x1 x2 x3 x4 x5 σ =>
    ((4080 ≤ x5) →
      True) ∧ (¬ (4080 ≤ x5) →
      ((x4 ≤ 0) →
        True) ∧ (¬ (x4 ≤ 0) →
        (ok_X5_deviation x5 x0 x1 x2 σ) ∧ (((x4 ≤ (f_X5_deviation x5 x0 x1 x2 σ)) →
          ok_X5_nearestAngle_51 (ok_X5_nearestAngle_14 n) x0 x1 x2 x3 x4 x5 (f_X5_deviation x5 x0 x1 x2 σ) σ) ∧ (¬ (x4 ≤ (f_X5_deviation x5 x0 x1 x2 σ)) →
          ok_X5_nearestAngle_51 (ok_X5_nearestAngle_14 n) x0 x1 x2 x5 (f_X5_deviation x5 x0 x1 x2 σ) x5 (f_X5_deviation x5 x0 x1 x2 σ) σ))))
noncomputable def f_X5_nearestAngle (p0 : Int32) (p1 : Int32) (p2 : Int32) (σ : Sg) : Int32 :=
  f_X5_nearestAngle_14  oF p0 p1 p2 0 (f_X5_deviation 0 p0 p1 p2 σ) 1 σ
def ok_X5_nearestAngle (p0 : Int32) (p1 : Int32) (p2 : Int32) (σ : Sg) : Prop :=
  (ok_X5_deviation 0 p0 p1 p2 σ) ∧ (ok_X5_nearestAngle_14  oF p0 p1 p2 0 (f_X5_deviation 0 p0 p1 p2 σ) 1 σ)
set_option maxHeartbeats 4000000 in
set_option maxRecDepth 100000 in
theorem t_X5_nearestAngle_51 {p : Program} {l : Launch} {e : Env} {s : State} {m : MethodId} {args : Array Value} {below : List Frame} {meth : Method} {c : Code} {G : Gt} {post : Int32 → Sg → Prop}  (hc : o_Cx p s m args meth c G cX5_nearestAngle yX5_nearestAngle.cls 7) (hr : meth.sig.returnType = (some .int)) {K : Int32 → Int32 → Int32 → Int32 → Int32 → Int32 → Sg → Int32} {okK : Int32 → Int32 → Int32 → Int32 → Int32 → Int32 → Sg → Prop} (hK : ∀ (z0 : Int32) (z1 : Int32) (z2 : Int32) (z3 : Int32) (z4 : Int32) (z5 : Int32) (zs : Sg), okK z0 z1 z2 z3 z4 z5 zs → (∀ q : Int32, q = K z0 z1 z2 z3 z4 z5 zs → post q zs) → o_V p l e { frames := 3, cells := 0, slots := 0, locals := 70 } s m args below meth c (MQ below (va_Qi post (fun σ' t => o_W G σ' t.heap) (o_A G)) args s 0 0 (o_A G)) G 0 0 7 zs 14 [(0, .int z0), (1, .int z1), (2, .int z2), (3, .int z3), (4, .int z4), (5, .int z5)] []) {x0 : Int32} {x1 : Int32} {x2 : Int32} {x3 : Int32} {x4 : Int32} {x5 : Int32} {x6 : Int32} {σ : Sg} (hok : ok_X5_nearestAngle_51 okK x0 x1 x2 x3 x4 x5 x6 σ) (hq : ∀ q : Int32, q = f_X5_nearestAngle_51 K x0 x1 x2 x3 x4 x5 x6 σ → post q σ) : o_V p l e { frames := 3, cells := 0, slots := 0, locals := 70 } s m args below meth c (MQ below (va_Qi post (fun σ' t => o_W G σ' t.heap) (o_A G)) args s 0 0 (o_A G)) G 0 0 7 σ 51 [(0, .int x0), (1, .int x1), (2, .int x2), (3, .int x3), (4, .int x4), (5, .int x5), (6, .int x6)] [] := by
  refine r_iload (pc := 51) hc 5 dX5_nearestAngle_51 rfl ?_
  refine r_iconst (pc := 53) (v := 1) hc dX5_nearestAngle_53 rfl ?_
  refine r_iload (pc := 54) hc 6 dX5_nearestAngle_54 rfl ?_
  refine r_iload (pc := 56) hc 4 dX5_nearestAngle_56 rfl ?_
  refine r_isub (pc := 58) hc dX5_nearestAngle_58 ?_
  refine r_iconst (pc := 59) (v := 1) hc dX5_nearestAngle_59 rfl ?_
  refine r_iadd (pc := 60) hc dX5_nearestAngle_60 ?_
  refine r_max (pc := 61) hc kM_X5_196 (Nat.le_of_ble_eq_true rfl) (Nat.le_of_ble_eq_true rfl) ⟨Nat.le_of_ble_eq_true rfl, Nat.le_of_ble_eq_true rfl⟩ dX5_nearestAngle_61 ?_
  refine r_iadd (pc := 64) hc dX5_nearestAngle_64 ?_
  refine r_istore (pc := 65) (lv' := [(5, _), (0, _), (1, _), (2, _), (3, _), (4, _), (6, _)]) hc dX5_nearestAngle_65 (by decide) rfl ?_
  refine r_goto (pc := 67) (tgt := 14) hc dX5_nearestAngle_67 (by decide) ?_
  exact o_V.sub (hK _ _ _ _ _ _ _ hok hq) [1, 2, 3, 4, 5, 0] rfl
set_option maxHeartbeats 4000000 in
set_option maxRecDepth 100000 in
theorem t_X5_nearestAngle_14 {p : Program} {l : Launch} {e : Env} {s : State} {m : MethodId} {args : Array Value} {below : List Frame} {meth : Method} {c : Code} {G : Gt} {post : Int32 → Sg → Prop}   (hc : o_Cx p s m args meth c G cX5_nearestAngle yX5_nearestAngle.cls 7) (hr : meth.sig.returnType = (some .int)) : ∀ (n : Nat) (x0 : Int32) (x1 : Int32) (x2 : Int32) (x3 : Int32) (x4 : Int32) (x5 : Int32) (σ : Sg) (hok : ok_X5_nearestAngle_14  n x0 x1 x2 x3 x4 x5 σ) (hq : ∀ q : Int32, q = f_X5_nearestAngle_14  n x0 x1 x2 x3 x4 x5 σ → post q σ), o_V p l e { frames := 3, cells := 0, slots := 0, locals := 70 } s m args below meth c (MQ below (va_Qi post (fun σ' t => o_W G σ' t.heap) (o_A G)) args s 0 0 (o_A G)) G 0 0 7 σ 14 [(0, .int x0), (1, .int x1), (2, .int x2), (3, .int x3), (4, .int x4), (5, .int x5)] [] := by
  intro n
  induction n with
  | zero =>
    intro x0 x1 x2 x3 x4 x5 σ hok hq
    exact hok.elim
  | succ n ih =>
    intro x0 x1 x2 x3 x4 x5 σ hok hq
    refine r_iload (pc := 14) hc 5 dX5_nearestAngle_14 rfl ?_
    refine r_sipush (pc := 16) (v := 4080) hc dX5_nearestAngle_16 (by decide) ?_
    refine r_icmp_ge (pc := 19) (tgt := 70) hc dX5_nearestAngle_19 (by decide) (fun c19 => ?_) (fun c19 => ?_)
    · have hok := hok.1 c19
      have hq := o_qp hq c19
      refine r_iload_n (pc := 70) hc 3 dX5_nearestAngle_70 rfl rfl ?_
      exact r_iret hc hr rfl dX5_nearestAngle_71 (hq _ rfl)
    · have hok := hok.2 c19
      have hq := o_qn hq c19
      refine r_iload (pc := 22) hc 4 dX5_nearestAngle_22 rfl ?_
      refine r_if_le (pc := 24) (tgt := 70) hc dX5_nearestAngle_24 (by decide) (fun c24 => ?_) (fun c24 => ?_)
      · have hok := hok.1 c24
        have hq := o_qp hq c24
        refine r_iload_n (pc := 70) hc 3 dX5_nearestAngle_70 rfl rfl ?_
        exact r_iret hc hr rfl dX5_nearestAngle_71 (hq _ rfl)
      · have hok := hok.2 c24
        have hq := o_qn hq c24
        refine r_iload (pc := 27) hc 5 dX5_nearestAngle_27 rfl ?_
        refine r_iload_n (pc := 29) hc 0 dX5_nearestAngle_29 rfl rfl ?_
        refine r_iload_n (pc := 30) hc 1 dX5_nearestAngle_30 rfl rfl ?_
        refine r_iload_n (pc := 31) hc 2 dX5_nearestAngle_31 rfl rfl ?_
        obtain ⟨hs1, hok⟩ := hok
        refine r_callS_i (pc := 32) (as := [.int _, .int _, .int _, .int _]) hc (c_X5_deviation l _ hs1) mS_X5_deviation kM_X5_161 ⟨Nat.le_of_ble_eq_true rfl, Nat.le_of_ble_eq_true rfl⟩ ⟨Nat.le_of_ble_eq_true rfl, Nat.le_of_ble_eq_true rfl⟩ rfl rfl (Nat.le_of_ble_eq_true rfl) dX5_nearestAngle_32 (fun r σ' h => ?_)
        obtain ⟨rfl, rfl⟩ := h
        refine r_istore (pc := 35) (lv' := [(6, _), (0, _), (1, _), (2, _), (3, _), (4, _), (5, _)]) hc dX5_nearestAngle_35 (by decide) rfl ?_
        refine r_iload (pc := 37) hc 0 dX5_nearestAngle_37 rfl ?_
        refine r_iload (pc := 39) hc 5 dX5_nearestAngle_39 rfl ?_
        refine r_icmp_ge (pc := 41) (tgt := 51) hc dX5_nearestAngle_41 (by decide) (fun c41 => ?_) (fun c41 => ?_)
        · have hok := hok.1 c41
          have hq := o_qp hq c41
          exact o_V.sub (t_X5_nearestAngle_51 hc hr (K := f_X5_nearestAngle_14 n) (okK := ok_X5_nearestAngle_14 n) (fun z0 z1 z2 z3 z4 z5 zs h1 h2 => ih z0 z1 z2 z3 z4 z5 zs h1 h2) hok hq) [1, 2, 3, 4, 5, 6, 0] rfl
        · have hok := hok.2 c41
          have hq := o_qn hq c41
          refine r_iload (pc := 44) hc 6 dX5_nearestAngle_44 rfl ?_
          refine r_istore_n (pc := 46) (lv' := [(3, _), (6, _), (0, _), (1, _), (2, _), (4, _), (5, _)]) hc dX5_nearestAngle_46 rfl (by decide) rfl ?_
          refine r_iload (pc := 47) hc 1 dX5_nearestAngle_47 rfl ?_
          refine r_istore (pc := 49) (lv' := [(4, _), (3, _), (6, _), (0, _), (1, _), (2, _), (5, _)]) hc dX5_nearestAngle_49 (by decide) rfl ?_
          exact o_V.sub (t_X5_nearestAngle_51 hc hr (K := f_X5_nearestAngle_14 n) (okK := ok_X5_nearestAngle_14 n) (fun z0 z1 z2 z3 z4 z5 zs h1 h2 => ih z0 z1 z2 z3 z4 z5 zs h1 h2) hok hq) [3, 4, 5, 1, 0, 6, 2] rfl
set_option maxHeartbeats 4000000 in
set_option maxRecDepth 100000 in
theorem c_X5_nearestAngle (l : Launch) (G : Gt) {p0 : Int32} {p1 : Int32} {p2 : Int32}  {σ : Sg} (hok : ok_X5_nearestAngle p0 p1 p2 σ) : o_Ci l G yX5_nearestAngle cX5_nearestAngle 7 (some .int) 3 70 [.int p0, .int p1, .int p2] σ (fun r σ' => r = f_X5_nearestAngle p0 p1 p2 σ ∧ σ' = σ) := by
  refine o_Ci.of (by decide +kernel) (Nat.le_of_ble_eq_true rfl) ?_
  intro p e s m args below meth c hc hr
  have hq : ∀ q : Int32, q = f_X5_nearestAngle p0 p1 p2 σ → (fun r σ' => r = f_X5_nearestAngle p0 p1 p2 σ ∧ σ' = σ) q σ := fun q h => ⟨h, rfl⟩
  refine r_iconst (pc := 0) (v := 0) hc dX5_nearestAngle_0 rfl ?_
  refine r_istore_n (pc := 1) (lv' := [(3, _), (0, _), (1, _), (2, _)]) hc dX5_nearestAngle_1 rfl (by decide) rfl ?_
  refine r_iconst (pc := 2) (v := 0) hc dX5_nearestAngle_2 rfl ?_
  refine r_iload_n (pc := 3) hc 1 dX5_nearestAngle_3 rfl rfl ?_
  refine r_iload_n (pc := 4) hc 2 dX5_nearestAngle_4 rfl rfl ?_
  refine r_iload_n (pc := 5) hc 3 dX5_nearestAngle_5 rfl rfl ?_
  obtain ⟨hs1, hok⟩ := hok
  refine r_callS_i (pc := 6) (as := [.int _, .int _, .int _, .int _]) hc (c_X5_deviation l _ hs1) mS_X5_deviation kM_X5_161 ⟨Nat.le_of_ble_eq_true rfl, Nat.le_of_ble_eq_true rfl⟩ ⟨Nat.le_of_ble_eq_true rfl, Nat.le_of_ble_eq_true rfl⟩ rfl rfl (Nat.le_of_ble_eq_true rfl) dX5_nearestAngle_6 (fun r σ' h => ?_)
  obtain ⟨rfl, rfl⟩ := h
  refine r_istore (pc := 9) (lv' := [(4, _), (3, _), (0, _), (1, _), (2, _)]) hc dX5_nearestAngle_9 (by decide) rfl ?_
  refine r_iconst (pc := 11) (v := 1) hc dX5_nearestAngle_11 rfl ?_
  refine r_istore (pc := 12) (lv' := [(5, _), (4, _), (3, _), (0, _), (1, _), (2, _)]) hc dX5_nearestAngle_12 (by decide) rfl ?_
  exact o_V.sub (t_X5_nearestAngle_14  hc hr oF _ _ _ _ _ _ _ hok hq) [3, 4, 5, 2, 1, 0] rfl
noncomputable def f_X5_sectorOf (p0 : Int32) (σ : Sg) : Int32 :=
  (p0 / 510)
def ok_X5_sectorOf (p0 : Int32) (σ : Sg) : Prop :=
  True
set_option maxHeartbeats 4000000 in
set_option maxRecDepth 100000 in
theorem c_X5_sectorOf (l : Launch) (G : Gt) {p0 : Int32}  {σ : Sg} (hok : ok_X5_sectorOf p0 σ) : o_Ci l G yX5_sectorOf cX5_sectorOf 1 (some .int) 0 0 [.int p0] σ (fun r σ' => r = f_X5_sectorOf p0 σ ∧ σ' = σ) := by
  refine o_Ci.of (by decide +kernel) (Nat.le_of_ble_eq_true rfl) ?_
  intro p e s m args below meth c hc hr
  have hq : ∀ q : Int32, q = f_X5_sectorOf p0 σ → (fun r σ' => r = f_X5_sectorOf p0 σ ∧ σ' = σ) q σ := fun q h => ⟨h, rfl⟩
  refine r_iload_n (pc := 0) hc 0 dX5_sectorOf_0 rfl rfl ?_
  refine r_sipush (pc := 1) (v := 510) hc dX5_sectorOf_1 (by decide) ?_
  refine r_idiv (pc := 4) hc dX5_sectorOf_4 (by decide) ?_
  exact r_iret hc hr rfl dX5_sectorOf_5 (hq _ rfl)
noncomputable def f_X5_toNumber (p0 : Int32) (σ : Sg) : Int32 :=
  o_ite (p0 = 0) (
    0) (
    1)
def ok_X5_toNumber (p0 : Int32) (σ : Sg) : Prop :=
  ((p0 = 0) →
    True) ∧ (¬ (p0 = 0) →
    True)
set_option maxHeartbeats 4000000 in
set_option maxRecDepth 100000 in
theorem c_X5_toNumber (l : Launch) (G : Gt) {p0 : Int32}  {σ : Sg} (hok : ok_X5_toNumber p0 σ) : o_Ci l G yX5_toNumber cX5_toNumber 1 (some .int) 0 0 [.int p0] σ (fun r σ' => r = f_X5_toNumber p0 σ ∧ σ' = σ) := by
  refine o_Ci.of (by decide +kernel) (Nat.le_of_ble_eq_true rfl) ?_
  intro p e s m args below meth c hc hr
  have hq : ∀ q : Int32, q = f_X5_toNumber p0 σ → (fun r σ' => r = f_X5_toNumber p0 σ ∧ σ' = σ) q σ := fun q h => ⟨h, rfl⟩
  refine r_iload_n (pc := 0) hc 0 dX5_toNumber_0 rfl rfl ?_
  refine r_if_eq (pc := 1) (tgt := 8) hc dX5_toNumber_1 (by decide) (fun c1 => ?_) (fun c1 => ?_)
  · have hok := hok.1 c1
    have hq := o_qp hq c1
    refine r_iconst (pc := 8) (v := 0) hc dX5_toNumber_8 rfl ?_
    exact r_iret hc hr rfl dX5_toNumber_9 (hq _ rfl)
  · have hok := hok.2 c1
    have hq := o_qn hq c1
    refine r_iconst (pc := 4) (v := 1) hc dX5_toNumber_4 rfl ?_
    refine r_goto (pc := 5) (tgt := 9) hc dX5_toNumber_5 (by decide) ?_
    exact r_iret hc hr rfl dX5_toNumber_9 (hq _ rfl)
noncomputable def f_X5_copy_2 (a0 : Nat) (a1 : Nat) : Nat → Int32 → Sg → Sg
  | 0 => fun _ σ => σ
  | n + 1 => fun x2 σ =>
    o_ite ((Int32.ofNat (o_len a0)) ≤ x2) (
      σ) (
      o_ite ((Int32.ofNat (o_len a1)) ≤ x2) (
        σ) (
        let σ3 := pu σ a1 x2.toNatClampNeg (σ a0 x2.toNatClampNeg)
        f_X5_copy_2 a0 a1 n (x2 + 1) σ3))
def ok_X5_copy_2 (a0 : Nat) (a1 : Nat) : Nat → Int32 → Sg → Prop
  | 0 => fun _ _ => False
  | n + 1 => fun x2 σ =>
    (((Int32.ofNat (o_len a0)) ≤ x2) →
      True) ∧ (¬ ((Int32.ofNat (o_len a0)) ≤ x2) →
      (((Int32.ofNat (o_len a1)) ≤ x2) →
        True) ∧ (¬ ((Int32.ofNat (o_len a1)) ≤ x2) →
        (vp_in x2 (o_len a0)) ∧ ((vp_in x2 (o_len a1)) ∧ (let σ3 := pu σ a1 x2.toNatClampNeg (σ a0 x2.toNatClampNeg)
        ok_X5_copy_2 a0 a1 n (x2 + 1) σ3))))
noncomputable def f_X5_copy (a0 : Nat) (a1 : Nat) (σ : Sg) : Sg :=
  f_X5_copy_2 a0 a1 oF 0 σ
def ok_X5_copy (a0 : Nat) (a1 : Nat) (σ : Sg) : Prop :=
  ok_X5_copy_2 a0 a1 oF 0 σ
set_option maxHeartbeats 4000000 in
set_option maxRecDepth 100000 in
theorem t_X5_copy_2 {p : Program} {l : Launch} {e : Env} {s : State} {m : MethodId} {args : Array Value} {below : List Frame} {meth : Method} {c : Code} {G : Gt} {post : Sg → Prop} {a0 : Nat} {a1 : Nat} (ha0 : a0 < 34 ∧ o_kd a0 = 7) (ha1 : a1 < 34 ∧ o_kd a1 = 7) (hc : o_Cx p s m args meth c G cX5_copy yX5_copy.cls 3) (hr : meth.sig.returnType = none) : ∀ (n : Nat) (x2 : Int32) (σ : Sg) (hok : ok_X5_copy_2 a0 a1 n x2 σ) (hq : ∀ q : Sg, q = f_X5_copy_2 a0 a1 n x2 σ → post q), o_V p l e { frames := 0, cells := 0, slots := 0, locals := 0 } s m args below meth c (MQ below (va_Qv post (fun σ' t => o_W G σ' t.heap) (o_A G)) args s 0 0 (o_A G)) G 0 0 3 σ 2 [(0, .ref (gAd G a0)), (1, .ref (gAd G a1)), (2, .int x2)] [] := by
  intro n
  induction n with
  | zero =>
    intro x2 σ hok hq
    exact hok.elim
  | succ n ih =>
    intro x2 σ hok hq
    refine r_iload_n (pc := 2) hc 2 dX5_copy_2 rfl rfl ?_
    refine r_aload_n (pc := 3) hc 0 dX5_copy_3 rfl rfl ?_
    refine r_alen (pc := 4) hc (o_lt hc ha0.1) ha0.2 rfl dX5_copy_4 ?_
    refine r_icmp_ge (pc := 5) (tgt := 26) hc dX5_copy_5 (by decide) (fun c5 => ?_) (fun c5 => ?_)
    · have hok := hok.1 c5
      have hq := o_qp hq c5
      exact r_vret hc hr dX5_copy_26 (hq _ rfl)
    · have hok := hok.2 c5
      have hq := o_qn hq c5
      refine r_iload_n (pc := 8) hc 2 dX5_copy_8 rfl rfl ?_
      refine r_aload_n (pc := 9) hc 1 dX5_copy_9 rfl rfl ?_
      refine r_alen (pc := 10) hc (o_lt hc ha1.1) ha1.2 rfl dX5_copy_10 ?_
      refine r_icmp_ge (pc := 11) (tgt := 26) hc dX5_copy_11 (by decide) (fun c11 => ?_) (fun c11 => ?_)
      · have hok := hok.1 c11
        have hq := o_qp hq c11
        exact r_vret hc hr dX5_copy_26 (hq _ rfl)
      · have hok := hok.2 c11
        have hq := o_qn hq c11
        refine r_aload_n (pc := 14) hc 1 dX5_copy_14 rfl rfl ?_
        refine r_iload_n (pc := 15) hc 2 dX5_copy_15 rfl rfl ?_
        refine r_aload_n (pc := 16) hc 0 dX5_copy_16 rfl rfl ?_
        refine r_iload_n (pc := 17) hc 2 dX5_copy_17 rfl rfl ?_
        obtain ⟨hs1, hok⟩ := hok
        refine r_iald (pc := 18) (k := _) hc (o_lt hc ha0.1) ha0.2 hs1 rfl dX5_copy_18 ?_
        obtain ⟨hs2, hok⟩ := hok
        refine r_iast (pc := 19) (k := _) hc (o_lt hc ha1.1) ha1.2 hs2 rfl dX5_copy_19 ?_
        refine r_iinc (pc := 20) (q := 2) (v := _ + 1) (lv' := [(2, _), (0, _), (1, _)]) hc dX5_copy_20 rfl rfl (by decide) rfl ?_
        refine r_goto (pc := 23) (tgt := 2) hc dX5_copy_23 (by decide) ?_
        exact o_V.sub (ih _ _ hok hq) [1, 2, 0] rfl
set_option maxHeartbeats 4000000 in
set_option maxRecDepth 100000 in
theorem c_X5_copy (l : Launch) (G : Gt) {a0 : Nat} {a1 : Nat} (ha0 : a0 < 34 ∧ o_kd a0 = 7) (ha1 : a1 < 34 ∧ o_kd a1 = 7) {σ : Sg} (hok : ok_X5_copy a0 a1 σ) : o_Cv l G yX5_copy cX5_copy 3 0 0 [.ref (gAd G a0), .ref (gAd G a1)] σ (fun σ' => σ' = f_X5_copy a0 a1 σ) := by
  refine o_Cv.of (by decide +kernel) (Nat.le_of_ble_eq_true rfl) ?_
  intro p e s m args below meth c hc hr
  have hq : ∀ q : Sg, q = f_X5_copy a0 a1 σ → (fun σ' => σ' = f_X5_copy a0 a1 σ) q := fun q h => h
  refine r_iconst (pc := 0) (v := 0) hc dX5_copy_0 rfl ?_
  refine r_istore_n (pc := 1) (lv' := [(2, _), (0, _), (1, _)]) hc dX5_copy_1 rfl (by decide) rfl ?_
  exact o_V.sub (t_X5_copy_2 ha0 ha1 hc hr oF _ _ hok hq) [1, 2, 0] rfl
noncomputable def f_X5_put (a0 : Nat) (p1 : Int32) (p2 : Int32) (σ : Sg) : Sg :=
  o_ite (p1 < 0) (
    σ) (
    o_ite ((Int32.ofNat (o_len a0)) ≤ p1) (
      σ) (
      let σ2 := pu σ a0 p1.toNatClampNeg p2
      σ2))
def ok_X5_put (a0 : Nat) (p1 : Int32) (p2 : Int32) (σ : Sg) : Prop :=
  ((p1 < 0) →
    True) ∧ (¬ (p1 < 0) →
    (((Int32.ofNat (o_len a0)) ≤ p1) →
      True) ∧ (¬ ((Int32.ofNat (o_len a0)) ≤ p1) →
      (vp_in p1 (o_len a0)) ∧ (let σ2 := pu σ a0 p1.toNatClampNeg p2
      True)))
set_option maxHeartbeats 4000000 in
set_option maxRecDepth 100000 in
theorem c_X5_put (l : Launch) (G : Gt) {a0 : Nat} {p1 : Int32} {p2 : Int32} (ha0 : a0 < 34 ∧ o_kd a0 = 7) {σ : Sg} (hok : ok_X5_put a0 p1 p2 σ) : o_Cv l G yX5_put cX5_put 3 0 0 [.ref (gAd G a0), .int p1, .int p2] σ (fun σ' => σ' = f_X5_put a0 p1 p2 σ) := by
  refine o_Cv.of (by decide +kernel) (Nat.le_of_ble_eq_true rfl) ?_
  intro p e s m args below meth c hc hr
  have hq : ∀ q : Sg, q = f_X5_put a0 p1 p2 σ → (fun σ' => σ' = f_X5_put a0 p1 p2 σ) q := fun q h => h
  refine r_iload_n (pc := 0) hc 1 dX5_put_0 rfl rfl ?_
  refine r_if_lt (pc := 1) (tgt := 14) hc dX5_put_1 (by decide) (fun c1 => ?_) (fun c1 => ?_)
  · have hok := hok.1 c1
    have hq := o_qp hq c1
    exact r_vret hc hr dX5_put_14 (hq _ rfl)
  · have hok := hok.2 c1
    have hq := o_qn hq c1
    refine r_iload_n (pc := 4) hc 1 dX5_put_4 rfl rfl ?_
    refine r_aload_n (pc := 5) hc 0 dX5_put_5 rfl rfl ?_
    refine r_alen (pc := 6) hc (o_lt hc ha0.1) ha0.2 rfl dX5_put_6 ?_
    refine r_icmp_ge (pc := 7) (tgt := 14) hc dX5_put_7 (by decide) (fun c7 => ?_) (fun c7 => ?_)
    · have hok := hok.1 c7
      have hq := o_qp hq c7
      exact r_vret hc hr dX5_put_14 (hq _ rfl)
    · have hok := hok.2 c7
      have hq := o_qn hq c7
      refine r_aload_n (pc := 10) hc 0 dX5_put_10 rfl rfl ?_
      refine r_iload_n (pc := 11) hc 1 dX5_put_11 rfl rfl ?_
      refine r_iload_n (pc := 12) hc 2 dX5_put_12 rfl rfl ?_
      obtain ⟨hs1, hok⟩ := hok
      refine r_iast (pc := 13) (k := _) hc (o_lt hc ha0.1) ha0.2 hs1 rfl dX5_put_13 ?_
      exact r_vret hc hr dX5_put_14 (hq _ rfl)
