set_option linter.all false
noncomputable def f_X6_angle  (σ : Sg) : Int32 :=
  ((σ 35 0) - (σ 35 0) / 4080 * 4080)
def ok_X6_angle  (σ : Sg) : Prop :=
  True
set_option maxHeartbeats 4000000 in
set_option maxRecDepth 100000 in
theorem c_X6_angle (l : Launch) (G : Gt)   {σ : Sg} (hok : ok_X6_angle  σ) : o_Ci l G yX6_angle cX6_angle 1 (some .int) 0 0 [.ref (gAd G 34)] σ (fun r σ' => r = f_X6_angle  σ ∧ σ' = σ) := by
  refine o_Ci.of (by decide +kernel) (Nat.le_of_ble_eq_true rfl) ?_
  intro p e s m args below meth c hc hr
  have hq : ∀ q : Int32, q = f_X6_angle  σ → (fun r σ' => r = f_X6_angle  σ ∧ σ' = σ) q σ := fun q h => ⟨h, rfl⟩
  refine r_aload_n (pc := 0) hc 0 dX6_angle_0 rfl rfl ?_
  refine r_getr (pc := 1) (j := 35) hc 0 kk6 (by decide) rfl (by decide) kF_X6_7 rfl rfl dX6_angle_1 ?_
  refine r_iconst (pc := 4) (v := 0) hc dX6_angle_4 rfl ?_
  refine r_iald (pc := 5) (k := 0) hc (by decide) rfl (by unfold vp_in; decide) (by decide) dX6_angle_5 ?_
  refine r_sipush (pc := 6) (v := 4080) hc dX6_angle_6 (by decide) ?_
  refine r_irem (pc := 9) hc dX6_angle_9 (by decide) ?_
  exact r_iret hc hr rfl dX6_angle_10 (hq _ rfl)
noncomputable def f_X6_rest (p0 : Int32) (p1 : Int32) (σ : Sg) : Int32 :=
  o_ite (0 ≤ (p0 - p0 / p1 * p1)) (
    (p0 - p0 / p1 * p1)) (
    ((p0 - p0 / p1 * p1) + p1))
def ok_X6_rest (p0 : Int32) (p1 : Int32) (σ : Sg) : Prop :=
  (¬ p1 = 0) ∧ (((0 ≤ (p0 - p0 / p1 * p1)) →
    True) ∧ (¬ (0 ≤ (p0 - p0 / p1 * p1)) →
    True))
set_option maxHeartbeats 4000000 in
set_option maxRecDepth 100000 in
theorem c_X6_rest (l : Launch) (G : Gt) {p0 : Int32} {p1 : Int32}  {σ : Sg} (hok : ok_X6_rest p0 p1 σ) : o_Ci l G yX6_rest cX6_rest 3 (some .int) 0 0 [.int p0, .int p1] σ (fun r σ' => r = f_X6_rest p0 p1 σ ∧ σ' = σ) := by
  refine o_Ci.of (by decide +kernel) (Nat.le_of_ble_eq_true rfl) ?_
  intro p e s m args below meth c hc hr
  have hq : ∀ q : Int32, q = f_X6_rest p0 p1 σ → (fun r σ' => r = f_X6_rest p0 p1 σ ∧ σ' = σ) q σ := fun q h => ⟨h, rfl⟩
  refine r_iload_n (pc := 0) hc 0 dX6_rest_0 rfl rfl ?_
  refine r_iload_n (pc := 1) hc 1 dX6_rest_1 rfl rfl ?_
  obtain ⟨hs1, hok⟩ := hok
  refine r_irem (pc := 2) hc dX6_rest_2 hs1 ?_
  refine r_istore_n (pc := 3) (lv' := [(2, _), (0, _), (1, _)]) hc dX6_rest_3 rfl (by decide) rfl ?_
  refine r_iload_n (pc := 4) hc 0 dX6_rest_4 rfl rfl ?_
  refine r_if_ge (pc := 5) (tgt := 14) hc dX6_rest_5 (by decide) (fun c5 => ?_) (fun c5 => ?_)
  · have hok := hok.1 c5
    have hq := o_qp hq c5
    refine r_iload_n (pc := 14) hc 0 dX6_rest_14 rfl rfl ?_
    exact r_iret hc hr rfl dX6_rest_15 (hq _ rfl)
  · have hok := hok.2 c5
    have hq := o_qn hq c5
    refine r_iload_n (pc := 8) hc 0 dX6_rest_8 rfl rfl ?_
    refine r_iload_n (pc := 9) hc 2 dX6_rest_9 rfl rfl ?_
    refine r_iadd (pc := 10) hc dX6_rest_10 ?_
    refine r_goto (pc := 11) (tgt := 15) hc dX6_rest_11 (by decide) ?_
    exact r_iret hc hr rfl dX6_rest_15 (hq _ rfl)
noncomputable def f_X6_off (p0 : Int32) (p1 : Int32) (p2 : Int32) (σ : Sg) : Int32 :=
  o_ite ((f_X6_rest (p0 - p1) p2 σ) ≤ (p2 - (f_X6_rest (p0 - p1) p2 σ))) (
    (f_X6_rest (p0 - p1) p2 σ)) (
    (p2 - (f_X6_rest (p0 - p1) p2 σ)))
def ok_X6_off (p0 : Int32) (p1 : Int32) (p2 : Int32) (σ : Sg) : Prop :=
  (ok_X6_rest (p0 - p1) p2 σ) ∧ ((((f_X6_rest (p0 - p1) p2 σ) ≤ (p2 - (f_X6_rest (p0 - p1) p2 σ))) →
    True) ∧ (¬ ((f_X6_rest (p0 - p1) p2 σ) ≤ (p2 - (f_X6_rest (p0 - p1) p2 σ))) →
    True))
set_option maxHeartbeats 4000000 in
set_option maxRecDepth 100000 in
theorem c_X6_off (l : Launch) (G : Gt) {p0 : Int32} {p1 : Int32} {p2 : Int32}  {σ : Sg} (hok : ok_X6_off p0 p1 p2 σ) : o_Ci l G yX6_off cX6_off 4 (some .int) 1 22 [.int p0, .int p1, .int p2] σ (fun r σ' => r = f_X6_off p0 p1 p2 σ ∧ σ' = σ) := by
  refine o_Ci.of (by decide +kernel) (Nat.le_of_ble_eq_true rfl) ?_
  intro p e s m args below meth c hc hr
  have hq : ∀ q : Int32, q = f_X6_off p0 p1 p2 σ → (fun r σ' => r = f_X6_off p0 p1 p2 σ ∧ σ' = σ) q σ := fun q h => ⟨h, rfl⟩
  refine r_iload_n (pc := 0) hc 0 dX6_off_0 rfl rfl ?_
  refine r_iload_n (pc := 1) hc 1 dX6_off_1 rfl rfl ?_
  refine r_isub (pc := 2) hc dX6_off_2 ?_
  refine r_iload_n (pc := 3) hc 2 dX6_off_3 rfl rfl ?_
  obtain ⟨hs1, hok⟩ := hok
  refine r_callS_i (pc := 4) (as := [.int _, .int _]) hc (c_X6_rest l G hs1) mS_X6_rest kM_X6_28 ⟨Nat.le_of_ble_eq_true rfl, Nat.le_of_ble_eq_true rfl⟩ ⟨Nat.le_refl 0, Nat.le_refl 0⟩ rfl rfl (Nat.le_of_ble_eq_true rfl) dX6_off_4 (fun r σ' h => ?_)
  obtain ⟨rfl, rfl⟩ := h
  refine r_istore_n (pc := 7) (lv' := [(3, _), (0, _), (1, _), (2, _)]) hc dX6_off_7 rfl (by decide) rfl ?_
  refine r_iload_n (pc := 8) hc 0 dX6_off_8 rfl rfl ?_
  refine r_iload_n (pc := 9) hc 3 dX6_off_9 rfl rfl ?_
  refine r_iload_n (pc := 10) hc 0 dX6_off_10 rfl rfl ?_
  refine r_isub (pc := 11) hc dX6_off_11 ?_
  refine r_icmp_le (pc := 12) (tgt := 21) hc dX6_off_12 (by decide) (fun c12 => ?_) (fun c12 => ?_)
  · have hok := hok.1 c12
    have hq := o_qp hq c12
    refine r_iload_n (pc := 21) hc 0 dX6_off_21 rfl rfl ?_
    exact r_iret hc hr rfl dX6_off_22 (hq _ rfl)
  · have hok := hok.2 c12
    have hq := o_qn hq c12
    refine r_iload_n (pc := 15) hc 3 dX6_off_15 rfl rfl ?_
    refine r_iload_n (pc := 16) hc 0 dX6_off_16 rfl rfl ?_
    refine r_isub (pc := 17) hc dX6_off_17 ?_
    refine r_goto (pc := 18) (tgt := 22) hc dX6_off_18 (by decide) ?_
    exact r_iret hc hr rfl dX6_off_22 (hq _ rfl)
noncomputable def f_X6_apart  (σ : Sg) : Int32 :=
  o_ite ((σ 35 5) = (-1)) (
    (-4)) (
    (f_X6_off (σ 35 5) (σ 35 0) 65280 σ))
def ok_X6_apart  (σ : Sg) : Prop :=
  (((σ 35 5) = (-1)) →
    True) ∧ (¬ ((σ 35 5) = (-1)) →
    (ok_X6_off (σ 35 5) (σ 35 0) 65280 σ) ∧ (True))
set_option maxHeartbeats 4000000 in
set_option maxRecDepth 100000 in
theorem c_X6_apart (l : Launch) (G : Gt)   {σ : Sg} (hok : ok_X6_apart  σ) : o_Ci l G yX6_apart cX6_apart 1 (some .int) 2 45 [.ref (gAd G 34)] σ (fun r σ' => r = f_X6_apart  σ ∧ σ' = σ) := by
  refine o_Ci.of (by decide +kernel) (Nat.le_of_ble_eq_true rfl) ?_
  intro p e s m args below meth c hc hr
  have hq : ∀ q : Int32, q = f_X6_apart  σ → (fun r σ' => r = f_X6_apart  σ ∧ σ' = σ) q σ := fun q h => ⟨h, rfl⟩
  refine r_aload_n (pc := 0) hc 0 dX6_apart_0 rfl rfl ?_
  refine r_getr (pc := 1) (j := 35) hc 0 kk6 (by decide) rfl (by decide) kF_X6_7 rfl rfl dX6_apart_1 ?_
  refine r_iconst (pc := 4) (v := 5) hc dX6_apart_4 rfl ?_
  refine r_iald (pc := 5) (k := 5) hc (by decide) rfl (by unfold vp_in; decide) (by decide) dX6_apart_5 ?_
  refine r_iconst (pc := 6) (v := (-1)) hc dX6_apart_6 rfl ?_
  refine r_icmp_ne (pc := 7) (tgt := 15) hc dX6_apart_7 (by decide) (fun c7 => ?_) (fun c7 => ?_)
  · have hok := hok.2 c7
    have hq := o_qn hq c7
    refine r_aload_n (pc := 15) hc 0 dX6_apart_15 rfl rfl ?_
    refine r_getr (pc := 16) (j := 35) hc 0 kk6 (by decide) rfl (by decide) kF_X6_7 rfl rfl dX6_apart_16 ?_
    refine r_iconst (pc := 19) (v := 5) hc dX6_apart_19 rfl ?_
    refine r_iald (pc := 20) (k := 5) hc (by decide) rfl (by unfold vp_in; decide) (by decide) dX6_apart_20 ?_
    refine r_aload_n (pc := 21) hc 0 dX6_apart_21 rfl rfl ?_
    refine r_getr (pc := 22) (j := 35) hc 0 kk6 (by decide) rfl (by decide) kF_X6_7 rfl rfl dX6_apart_22 ?_
    refine r_iconst (pc := 25) (v := 0) hc dX6_apart_25 rfl ?_
    refine r_iald (pc := 26) (k := 0) hc (by decide) rfl (by unfold vp_in; decide) (by decide) dX6_apart_26 ?_
    refine r_ldc (pc := 27) (v := 65280) hc kK_X6_133 dX6_apart_27 ?_
    obtain ⟨hs1, hok⟩ := hok
    refine r_callS_i (pc := 29) (as := [.int _, .int _, .int _]) hc (c_X6_off l G hs1) mS_X6_off kM_X6_119 ⟨Nat.le_of_ble_eq_true rfl, Nat.le_of_ble_eq_true rfl⟩ ⟨Nat.le_refl 0, Nat.le_refl 0⟩ rfl rfl (Nat.le_of_ble_eq_true rfl) dX6_apart_29 (fun r σ' h => ?_)
    obtain ⟨rfl, rfl⟩ := h
    exact r_iret hc hr rfl dX6_apart_32 (hq _ rfl)
  · have hok := hok.1 c7
    have hq := o_qp hq c7
    refine r_bipush (pc := 10) (v := (-4)) hc dX6_apart_10 (by decide) ?_
    refine r_goto (pc := 12) (tgt := 32) hc dX6_apart_12 (by decide) ?_
    exact r_iret hc hr rfl dX6_apart_32 (hq _ rfl)
noncomputable def f_X6_in (p0 : Int32) (p1 : Int32) (p2 : Int32) (σ : Sg) : Int32 :=
  o_ite (p0 < p1) (
    0) (
    o_ite (p2 < p0) (
      0) (
      1))
def ok_X6_in (p0 : Int32) (p1 : Int32) (p2 : Int32) (σ : Sg) : Prop :=
  ((p0 < p1) →
    True) ∧ (¬ (p0 < p1) →
    ((p2 < p0) →
      True) ∧ (¬ (p2 < p0) →
      True))
set_option maxHeartbeats 4000000 in
set_option maxRecDepth 100000 in
theorem c_X6_in (l : Launch) (G : Gt) {p0 : Int32} {p1 : Int32} {p2 : Int32}  {σ : Sg} (hok : ok_X6_in p0 p1 p2 σ) : o_Ci l G yX6_in cX6_in 3 (some .boolean) 0 0 [.int p0, .int p1, .int p2] σ (fun r σ' => r = f_X6_in p0 p1 p2 σ ∧ σ' = σ) := by
  refine o_Ci.of (by decide +kernel) (Nat.le_of_ble_eq_true rfl) ?_
  intro p e s m args below meth c hc hr
  have hq : ∀ q : Int32, q = f_X6_in p0 p1 p2 σ → (fun r σ' => r = f_X6_in p0 p1 p2 σ ∧ σ' = σ) q σ := fun q h => ⟨h, rfl⟩
  refine r_iload_n (pc := 0) hc 0 dX6_in_0 rfl rfl ?_
  refine r_iload_n (pc := 1) hc 1 dX6_in_1 rfl rfl ?_
  refine r_icmp_lt (pc := 2) (tgt := 14) hc dX6_in_2 (by decide) (fun c2 => ?_) (fun c2 => ?_)
  · have hok := hok.1 c2
    have hq := o_qp hq c2
    refine r_iconst (pc := 14) (v := 0) hc dX6_in_14 rfl ?_
    exact r_iret hc hr rfl dX6_in_15 (hq _ rfl)
  · have hok := hok.2 c2
    have hq := o_qn hq c2
    refine r_iload_n (pc := 5) hc 0 dX6_in_5 rfl rfl ?_
    refine r_iload_n (pc := 6) hc 2 dX6_in_6 rfl rfl ?_
    refine r_icmp_gt (pc := 7) (tgt := 14) hc dX6_in_7 (by decide) (fun c7 => ?_) (fun c7 => ?_)
    · have hok := hok.1 c7
      have hq := o_qp hq c7
      refine r_iconst (pc := 14) (v := 0) hc dX6_in_14 rfl ?_
      exact r_iret hc hr rfl dX6_in_15 (hq _ rfl)
    · have hok := hok.2 c7
      have hq := o_qn hq c7
      refine r_iconst (pc := 10) (v := 1) hc dX6_in_10 rfl ?_
      refine r_goto (pc := 11) (tgt := 15) hc dX6_in_11 (by decide) ?_
      exact r_iret hc hr rfl dX6_in_15 (hq _ rfl)
noncomputable def f_X6_saves_50  : Nat → Int32 → Sg → Sg
  | 0 => fun _ σ => σ
  | n + 1 => fun x1 σ =>
    o_ite (62 ≤ x1) (
      let σ1 := pu σ 34 2 ((σ 34 2) + 1)
      σ1) (
      let σ4 := pu σ 36 ((62 * (σ 34 2)) + x1).toNatClampNeg (σ 35 x1.toNatClampNeg)
      f_X6_saves_50 n (x1 + 1) σ4)
def ok_X6_saves_50  : Nat → Int32 → Sg → Prop
  | 0 => fun _ _ => False
  | n + 1 => fun x1 σ =>
    ((62 ≤ x1) →
      let σ1 := pu σ 34 2 ((σ 34 2) + 1)
      True) ∧ (¬ (62 ≤ x1) →
      (vp_in x1 62) ∧ ((vp_in ((62 * (σ 34 2)) + x1) 248) ∧ (let σ4 := pu σ 36 ((62 * (σ 34 2)) + x1).toNatClampNeg (σ 35 x1.toNatClampNeg)
      ok_X6_saves_50  n (x1 + 1) σ4)))
noncomputable def f_X6_saves_10  : Nat → Int32 → Sg → Sg
  | 0 => fun _ σ => σ
  | n + 1 => fun x1 σ =>
    o_ite (186 ≤ x1) (
      let σ1 := pu σ 34 2 ((σ 34 2) - 1)
      f_X6_saves_50  oF 0 σ1) (
      let σ4 := pu σ 36 x1.toNatClampNeg (σ 36 (x1 + 62).toNatClampNeg)
      f_X6_saves_10 n (x1 + 1) σ4)
def ok_X6_saves_10  : Nat → Int32 → Sg → Prop
  | 0 => fun _ _ => False
  | n + 1 => fun x1 σ =>
    ((186 ≤ x1) →
      let σ1 := pu σ 34 2 ((σ 34 2) - 1)
      ok_X6_saves_50  oF 0 σ1) ∧ (¬ (186 ≤ x1) →
      (vp_in (x1 + 62) 248) ∧ ((vp_in x1 248) ∧ (let σ4 := pu σ 36 x1.toNatClampNeg (σ 36 (x1 + 62).toNatClampNeg)
      ok_X6_saves_10  n (x1 + 1) σ4)))
noncomputable def f_X6_saves  (σ : Sg) : Sg :=
  o_ite ((σ 34 2) = 4) (
    f_X6_saves_10  oF 0 σ) (
    f_X6_saves_50  oF 0 σ)
def ok_X6_saves  (σ : Sg) : Prop :=
  (((σ 34 2) = 4) →
    ok_X6_saves_10  oF 0 σ) ∧ (¬ ((σ 34 2) = 4) →
    ok_X6_saves_50  oF 0 σ)
set_option maxHeartbeats 4000000 in
set_option maxRecDepth 100000 in
theorem t_X6_saves_50 {p : Program} {l : Launch} {e : Env} {s : State} {m : MethodId} {args : Array Value} {below : List Frame} {meth : Method} {c : Code} {G : Gt} {post : Sg → Prop}   (hc : o_Cx p s m args meth c G cX6_saves yX6_saves.cls 2) (hr : meth.sig.returnType = none) : ∀ (n : Nat) (x1 : Int32) (σ : Sg) (hok : ok_X6_saves_50  n x1 σ) (hq : ∀ q : Sg, q = f_X6_saves_50  n x1 σ → post q), o_V p l e { frames := 0, cells := 0, slots := 0, locals := 0 } s m args below meth c (MQ below (va_Qv post (fun σ' t => o_W G σ' t.heap) (o_A G)) args s 0 0 (o_A G)) G 0 0 2 σ 50 [(0, .ref (gAd G 34)), (1, .int x1)] [] := by
  intro n
  induction n with
  | zero =>
    intro x1 σ hok hq
    exact hok.elim
  | succ n ih =>
    intro x1 σ hok hq
    refine r_iload_n (pc := 50) hc 1 dX6_saves_50 rfl rfl ?_
    refine r_bipush (pc := 51) (v := 62) hc dX6_saves_51 (by decide) ?_
    refine r_icmp_ge (pc := 53) (tgt := 82) hc dX6_saves_53 (by decide) (fun c53 => ?_) (fun c53 => ?_)
    · have hok := hok.1 c53
      have hq := o_qp hq c53
      refine r_aload_n (pc := 82) hc 0 dX6_saves_82 rfl rfl ?_
      refine r_dup (pc := 83) hc dX6_saves_83 rfl ?_
      refine r_geti (pc := 84) hc 2 kk6 (by decide) rfl (by decide) kF_X6_40 rfl rfl dX6_saves_84 ?_
      refine r_iconst (pc := 87) (v := 1) hc dX6_saves_87 rfl ?_
      refine r_iadd (pc := 88) hc dX6_saves_88 ?_
      refine r_put (pc := 89) hc 2 kk6 (by decide) rfl (by decide) kF_X6_40 rfl rfl rfl rfl rfl dX6_saves_89 ?_
      exact r_vret hc hr dX6_saves_92 (hq _ rfl)
    · have hok := hok.2 c53
      have hq := o_qn hq c53
      refine r_aload_n (pc := 56) hc 0 dX6_saves_56 rfl rfl ?_
      refine r_getr (pc := 57) (j := 36) hc 1 kk6 (by decide) rfl (by decide) kF_X6_13 rfl rfl dX6_saves_57 ?_
      refine r_bipush (pc := 60) (v := 62) hc dX6_saves_60 (by decide) ?_
      refine r_aload_n (pc := 62) hc 0 dX6_saves_62 rfl rfl ?_
      refine r_geti (pc := 63) hc 2 kk6 (by decide) rfl (by decide) kF_X6_40 rfl rfl dX6_saves_63 ?_
      refine r_imul (pc := 66) hc dX6_saves_66 ?_
      refine r_iload_n (pc := 67) hc 1 dX6_saves_67 rfl rfl ?_
      refine r_iadd (pc := 68) hc dX6_saves_68 ?_
      refine r_aload_n (pc := 69) hc 0 dX6_saves_69 rfl rfl ?_
      refine r_getr (pc := 70) (j := 35) hc 0 kk6 (by decide) rfl (by decide) kF_X6_7 rfl rfl dX6_saves_70 ?_
      refine r_iload_n (pc := 73) hc 1 dX6_saves_73 rfl rfl ?_
      obtain ⟨hs2, hok⟩ := hok
      refine r_iald (pc := 74) (k := _) hc (by decide) rfl hs2 rfl dX6_saves_74 ?_
      obtain ⟨hs3, hok⟩ := hok
      refine r_iast (pc := 75) (k := _) hc (by decide) rfl hs3 rfl dX6_saves_75 ?_
      refine r_iinc (pc := 76) (q := 1) (v := _ + 1) (lv' := [(1, _), (0, _)]) hc dX6_saves_76 rfl rfl (by decide) rfl ?_
      refine r_goto (pc := 79) (tgt := 50) hc dX6_saves_79 (by decide) ?_
      exact o_V.sub (ih _ _ hok hq) [1, 0] rfl
set_option maxHeartbeats 4000000 in
set_option maxRecDepth 100000 in
theorem t_X6_saves_10 {p : Program} {l : Launch} {e : Env} {s : State} {m : MethodId} {args : Array Value} {below : List Frame} {meth : Method} {c : Code} {G : Gt} {post : Sg → Prop}   (hc : o_Cx p s m args meth c G cX6_saves yX6_saves.cls 2) (hr : meth.sig.returnType = none) : ∀ (n : Nat) (x1 : Int32) (σ : Sg) (hok : ok_X6_saves_10  n x1 σ) (hq : ∀ q : Sg, q = f_X6_saves_10  n x1 σ → post q), o_V p l e { frames := 0, cells := 0, slots := 0, locals := 0 } s m args below meth c (MQ below (va_Qv post (fun σ' t => o_W G σ' t.heap) (o_A G)) args s 0 0 (o_A G)) G 0 0 2 σ 10 [(0, .ref (gAd G 34)), (1, .int x1)] [] := by
  intro n
  induction n with
  | zero =>
    intro x1 σ hok hq
    exact hok.elim
  | succ n ih =>
    intro x1 σ hok hq
    refine r_iload_n (pc := 10) hc 1 dX6_saves_10 rfl rfl ?_
    refine r_sipush (pc := 11) (v := 186) hc dX6_saves_11 (by decide) ?_
    refine r_icmp_ge (pc := 14) (tgt := 38) hc dX6_saves_14 (by decide) (fun c14 => ?_) (fun c14 => ?_)
    · have hok := hok.1 c14
      have hq := o_qp hq c14
      refine r_aload_n (pc := 38) hc 0 dX6_saves_38 rfl rfl ?_
      refine r_dup (pc := 39) hc dX6_saves_39 rfl ?_
      refine r_geti (pc := 40) hc 2 kk6 (by decide) rfl (by decide) kF_X6_40 rfl rfl dX6_saves_40 ?_
      refine r_iconst (pc := 43) (v := 1) hc dX6_saves_43 rfl ?_
      refine r_isub (pc := 44) hc dX6_saves_44 ?_
      refine r_put (pc := 45) hc 2 kk6 (by decide) rfl (by decide) kF_X6_40 rfl rfl rfl rfl rfl dX6_saves_45 ?_
      refine r_iconst (pc := 48) (v := 0) hc dX6_saves_48 rfl ?_
      refine r_istore_n (pc := 49) (lv' := [(1, _), (0, _)]) hc dX6_saves_49 rfl (by decide) rfl ?_
      exact o_V.sub (t_X6_saves_50  hc hr oF _ _ hok hq) [1, 0] rfl
    · have hok := hok.2 c14
      have hq := o_qn hq c14
      refine r_aload_n (pc := 17) hc 0 dX6_saves_17 rfl rfl ?_
      refine r_getr (pc := 18) (j := 36) hc 1 kk6 (by decide) rfl (by decide) kF_X6_13 rfl rfl dX6_saves_18 ?_
      refine r_iload_n (pc := 21) hc 1 dX6_saves_21 rfl rfl ?_
      refine r_aload_n (pc := 22) hc 0 dX6_saves_22 rfl rfl ?_
      refine r_getr (pc := 23) (j := 36) hc 1 kk6 (by decide) rfl (by decide) kF_X6_13 rfl rfl dX6_saves_23 ?_
      refine r_iload_n (pc := 26) hc 1 dX6_saves_26 rfl rfl ?_
      refine r_bipush (pc := 27) (v := 62) hc dX6_saves_27 (by decide) ?_
      refine r_iadd (pc := 29) hc dX6_saves_29 ?_
      obtain ⟨hs2, hok⟩ := hok
      refine r_iald (pc := 30) (k := _) hc (by decide) rfl hs2 rfl dX6_saves_30 ?_
      obtain ⟨hs3, hok⟩ := hok
      refine r_iast (pc := 31) (k := _) hc (by decide) rfl hs3 rfl dX6_saves_31 ?_
      refine r_iinc (pc := 32) (q := 1) (v := _ + 1) (lv' := [(1, _), (0, _)]) hc dX6_saves_32 rfl rfl (by decide) rfl ?_
      refine r_goto (pc := 35) (tgt := 10) hc dX6_saves_35 (by decide) ?_
      exact o_V.sub (ih _ _ hok hq) [1, 0] rfl
set_option maxHeartbeats 4000000 in
set_option maxRecDepth 100000 in
theorem c_X6_saves (l : Launch) (G : Gt)   {σ : Sg} (hok : ok_X6_saves  σ) : o_Cv l G yX6_saves cX6_saves 2 0 0 [.ref (gAd G 34)] σ (fun σ' => σ' = f_X6_saves  σ) := by
  refine o_Cv.of (by decide +kernel) (Nat.le_of_ble_eq_true rfl) ?_
  intro p e s m args below meth c hc hr
  have hq : ∀ q : Sg, q = f_X6_saves  σ → (fun σ' => σ' = f_X6_saves  σ) q := fun q h => h
  refine r_aload_n (pc := 0) hc 0 dX6_saves_0 rfl rfl ?_
  refine r_geti (pc := 1) hc 2 kk6 (by decide) rfl (by decide) kF_X6_40 rfl rfl dX6_saves_1 ?_
  refine r_iconst (pc := 4) (v := 4) hc dX6_saves_4 rfl ?_
  refine r_icmp_ne (pc := 5) (tgt := 48) hc dX6_saves_5 (by decide) (fun c5 => ?_) (fun c5 => ?_)
  · have hok := hok.2 c5
    have hq := o_qn hq c5
    refine r_iconst (pc := 48) (v := 0) hc dX6_saves_48 rfl ?_
    refine r_istore_n (pc := 49) (lv' := [(1, _), (0, _)]) hc dX6_saves_49 rfl (by decide) rfl ?_
    exact o_V.sub (t_X6_saves_50  hc hr oF _ _ hok hq) [1, 0] rfl
  · have hok := hok.1 c5
    have hq := o_qp hq c5
    refine r_iconst (pc := 8) (v := 0) hc dX6_saves_8 rfl ?_
    refine r_istore_n (pc := 9) (lv' := [(1, _), (0, _)]) hc dX6_saves_9 rfl (by decide) rfl ?_
    exact o_V.sub (t_X6_saves_10  hc hr oF _ _ hok hq) [1, 0] rfl
noncomputable def f_X6_puts (p1 : Int32) (p2 : Int32) (σ : Sg) : Int32 × Sg :=
  let σ2 := f_X6_saves σ
  let σ5 := pu σ2 35 p1.toNatClampNeg p2
  ((σ2 35 p1.toNatClampNeg), σ5)
def ok_X6_puts (p1 : Int32) (p2 : Int32) (σ : Sg) : Prop :=
  (ok_X6_saves σ) ∧ (let σ2 := f_X6_saves σ
  (vp_in p1 62) ∧ ((vp_in p1 62) ∧ (let σ5 := pu σ2 35 p1.toNatClampNeg p2
  True)))
set_option maxHeartbeats 4000000 in
set_option maxRecDepth 100000 in
theorem c_X6_puts (l : Launch) (G : Gt) {p1 : Int32} {p2 : Int32}  {σ : Sg} (hok : ok_X6_puts p1 p2 σ) : o_Ci l G yX6_puts cX6_puts 4 (some .int) 1 21 [.ref (gAd G 34), .int p1, .int p2] σ (fun r σ' => r = (f_X6_puts p1 p2 σ).1 ∧ σ' = (f_X6_puts p1 p2 σ).2) := by
  refine o_Ci.of (by decide +kernel) (Nat.le_of_ble_eq_true rfl) ?_
  intro p e s m args below meth c hc hr
  have hq : ∀ q : Int32 × Sg, q = f_X6_puts p1 p2 σ → (fun r σ' => r = (f_X6_puts p1 p2 σ).1 ∧ σ' = (f_X6_puts p1 p2 σ).2) q.1 q.2 := fun q h => ⟨congrArg Prod.fst h, congrArg Prod.snd h⟩
  refine r_aload_n (pc := 0) hc 0 dX6_puts_0 rfl rfl ?_
  obtain ⟨hs1, hok⟩ := hok
  refine r_callV_v (pc := 1) (as := []) hc (c_X6_saves l G hs1) kk6 (by decide) rfl mV_X6_saves kM_X6_44 ⟨Nat.le_of_ble_eq_true rfl, Nat.le_of_ble_eq_true rfl⟩ ⟨Nat.le_refl 0, Nat.le_refl 0⟩ rfl rfl (Nat.le_of_ble_eq_true rfl) dX6_puts_1 (fun σ' h => ?_)
  subst h
  refine r_aload_n (pc := 4) hc 0 dX6_puts_4 rfl rfl ?_
  refine r_getr (pc := 5) (j := 35) hc 0 kk6 (by decide) rfl (by decide) kF_X6_7 rfl rfl dX6_puts_5 ?_
  refine r_iload_n (pc := 8) hc 1 dX6_puts_8 rfl rfl ?_
  obtain ⟨hs3, hok⟩ := hok
  refine r_iald (pc := 9) (k := _) hc (by decide) rfl hs3 rfl dX6_puts_9 ?_
  refine r_istore_n (pc := 10) (lv' := [(3, _), (0, _), (1, _), (2, _)]) hc dX6_puts_10 rfl (by decide) rfl ?_
  refine r_aload_n (pc := 11) hc 1 dX6_puts_11 rfl rfl ?_
  refine r_getr (pc := 12) (j := 35) hc 0 kk6 (by decide) rfl (by decide) kF_X6_7 rfl rfl dX6_puts_12 ?_
  refine r_iload_n (pc := 15) hc 2 dX6_puts_15 rfl rfl ?_
  refine r_iload_n (pc := 16) hc 3 dX6_puts_16 rfl rfl ?_
  obtain ⟨hs4, hok⟩ := hok
  refine r_iast (pc := 17) (k := _) hc (by decide) rfl hs4 rfl dX6_puts_17 ?_
  refine r_iload_n (pc := 18) hc 0 dX6_puts_18 rfl rfl ?_
  exact r_iret hc hr rfl dX6_puts_19 (hq (_, _) rfl)
noncomputable def f_X6_brownout (p1 : Int32) (σ : Sg) : Int32 × Sg :=
  o_ite ((f_X6_in p1 1 9 σ) = 0) (
    ((-1), σ)) (
    o_ite (((σ 35 4) + p1) ≤ 99) (
      let q3 := f_X6_puts 4 ((σ 35 4) + p1) σ
      ((q3.1 + p1), q3.2)) (
      ((-3), σ)))
def ok_X6_brownout (p1 : Int32) (σ : Sg) : Prop :=
  (ok_X6_in p1 1 9 σ) ∧ ((((f_X6_in p1 1 9 σ) = 0) →
    True) ∧ (¬ ((f_X6_in p1 1 9 σ) = 0) →
    ((((σ 35 4) + p1) ≤ 99) →
      (ok_X6_puts 4 ((σ 35 4) + p1) σ) ∧ (let q3 := f_X6_puts 4 ((σ 35 4) + p1) σ
      True)) ∧ (¬ (((σ 35 4) + p1) ≤ 99) →
      True)))
set_option maxHeartbeats 4000000 in
set_option maxRecDepth 100000 in
theorem c_X6_brownout (l : Launch) (G : Gt) {p1 : Int32}  {σ : Sg} (hok : ok_X6_brownout p1 σ) : o_Ci l G yX6_brownout cX6_brownout 3 (some .int) 2 44 [.ref (gAd G 34), .int p1] σ (fun r σ' => r = (f_X6_brownout p1 σ).1 ∧ σ' = (f_X6_brownout p1 σ).2) := by
  refine o_Ci.of (by decide +kernel) (Nat.le_of_ble_eq_true rfl) ?_
  intro p e s m args below meth c hc hr
  have hq : ∀ q : Int32 × Sg, q = f_X6_brownout p1 σ → (fun r σ' => r = (f_X6_brownout p1 σ).1 ∧ σ' = (f_X6_brownout p1 σ).2) q.1 q.2 := fun q h => ⟨congrArg Prod.fst h, congrArg Prod.snd h⟩
  refine r_iload_n (pc := 0) hc 1 dX6_brownout_0 rfl rfl ?_
  refine r_iconst (pc := 1) (v := 1) hc dX6_brownout_1 rfl ?_
  refine r_bipush (pc := 2) (v := 9) hc dX6_brownout_2 (by decide) ?_
  obtain ⟨hs1, hok⟩ := hok
  refine r_callS_i (pc := 4) (as := [.int _, .int _, .int _]) hc (c_X6_in l G hs1) mS_X6_in kM_X6_32 ⟨Nat.le_of_ble_eq_true rfl, Nat.le_of_ble_eq_true rfl⟩ ⟨Nat.le_refl 0, Nat.le_refl 0⟩ rfl rfl (Nat.le_of_ble_eq_true rfl) dX6_brownout_4 (fun r σ' h => ?_)
  obtain ⟨rfl, rfl⟩ := h
  refine r_if_ne (pc := 7) (tgt := 12) hc dX6_brownout_7 (by decide) (fun c7 => ?_) (fun c7 => ?_)
  · have hok := hok.2 c7
    have hq := o_qn hq c7
    refine r_aload_n (pc := 12) hc 0 dX6_brownout_12 rfl rfl ?_
    refine r_getr (pc := 13) (j := 35) hc 0 kk6 (by decide) rfl (by decide) kF_X6_7 rfl rfl dX6_brownout_13 ?_
    refine r_iconst (pc := 16) (v := 4) hc dX6_brownout_16 rfl ?_
    refine r_iald (pc := 17) (k := 4) hc (by decide) rfl (by unfold vp_in; decide) (by decide) dX6_brownout_17 ?_
    refine r_iload_n (pc := 18) hc 1 dX6_brownout_18 rfl rfl ?_
    refine r_iadd (pc := 19) hc dX6_brownout_19 ?_
    refine r_bipush (pc := 20) (v := 99) hc dX6_brownout_20 (by decide) ?_
    refine r_icmp_le (pc := 22) (tgt := 28) hc dX6_brownout_22 (by decide) (fun c22 => ?_) (fun c22 => ?_)
    · have hok := hok.1 c22
      have hq := o_qp hq c22
      refine r_aload_n (pc := 28) hc 0 dX6_brownout_28 rfl rfl ?_
      refine r_iconst (pc := 29) (v := 4) hc dX6_brownout_29 rfl ?_
      refine r_aload_n (pc := 30) hc 0 dX6_brownout_30 rfl rfl ?_
      refine r_getr (pc := 31) (j := 35) hc 0 kk6 (by decide) rfl (by decide) kF_X6_7 rfl rfl dX6_brownout_31 ?_
      refine r_iconst (pc := 34) (v := 4) hc dX6_brownout_34 rfl ?_
      refine r_iald (pc := 35) (k := 4) hc (by decide) rfl (by unfold vp_in; decide) (by decide) dX6_brownout_35 ?_
      refine r_iload_n (pc := 36) hc 1 dX6_brownout_36 rfl rfl ?_
      refine r_iadd (pc := 37) hc dX6_brownout_37 ?_
      obtain ⟨hs2, hok⟩ := hok
      refine r_callV_i (pc := 38) (as := [.int _, .int _]) hc (c_X6_puts l G hs2) kk6 (by decide) rfl mV_X6_puts kM_X6_52 ⟨Nat.le_of_ble_eq_true rfl, Nat.le_of_ble_eq_true rfl⟩ ⟨Nat.le_refl 0, Nat.le_refl 0⟩ rfl rfl (Nat.le_of_ble_eq_true rfl) dX6_brownout_38 (fun r σ' h => ?_)
      obtain ⟨rfl, rfl⟩ := h
      refine r_istore_n (pc := 41) (lv' := [(2, _), (0, _), (1, _)]) hc dX6_brownout_41 rfl (by decide) rfl ?_
      refine r_iload_n (pc := 42) hc 0 dX6_brownout_42 rfl rfl ?_
      refine r_iload_n (pc := 43) hc 2 dX6_brownout_43 rfl rfl ?_
      refine r_iadd (pc := 44) hc dX6_brownout_44 ?_
      exact r_iret hc hr rfl dX6_brownout_45 (hq (_, _) rfl)
    · have hok := hok.2 c22
      have hq := o_qn hq c22
      refine r_bipush (pc := 25) (v := (-3)) hc dX6_brownout_25 (by decide) ?_
      exact r_iret hc hr rfl dX6_brownout_27 (hq (_, _) rfl)
  · have hok := hok.1 c7
    have hq := o_qp hq c7
    refine r_iconst (pc := 10) (v := (-1)) hc dX6_brownout_10 rfl ?_
    exact r_iret hc hr rfl dX6_brownout_11 (hq (_, _) rfl)
noncomputable def f_X6_lengthOf (p0 : Int32) (σ : Sg) : Int32 :=
  o_ite (p0 = 0) (
    272) (
    o_ite (p0 = 1) (
      255) (
      240))
def ok_X6_lengthOf (p0 : Int32) (σ : Sg) : Prop :=
  ((p0 = 0) →
    True) ∧ (¬ (p0 = 0) →
    ((p0 = 1) →
      True) ∧ (¬ (p0 = 1) →
      True))
set_option maxHeartbeats 4000000 in
set_option maxRecDepth 100000 in
theorem c_X6_lengthOf (l : Launch) (G : Gt) {p0 : Int32}  {σ : Sg} (hok : ok_X6_lengthOf p0 σ) : o_Ci l G yX6_lengthOf cX6_lengthOf 1 (some .int) 0 0 [.int p0] σ (fun r σ' => r = f_X6_lengthOf p0 σ ∧ σ' = σ) := by
  refine o_Ci.of (by decide +kernel) (Nat.le_of_ble_eq_true rfl) ?_
  intro p e s m args below meth c hc hr
  have hq : ∀ q : Int32, q = f_X6_lengthOf p0 σ → (fun r σ' => r = f_X6_lengthOf p0 σ ∧ σ' = σ) q σ := fun q h => ⟨h, rfl⟩
  refine r_iload_n (pc := 0) hc 0 dX6_lengthOf_0 rfl rfl ?_
  refine r_if_ne (pc := 1) (tgt := 10) hc dX6_lengthOf_1 (by decide) (fun c1 => ?_) (fun c1 => ?_)
  · have hok := hok.2 c1
    have hq := o_qn hq c1
    refine r_iload_n (pc := 10) hc 0 dX6_lengthOf_10 rfl rfl ?_
    refine r_iconst (pc := 11) (v := 1) hc dX6_lengthOf_11 rfl ?_
    refine r_icmp_ne (pc := 12) (tgt := 21) hc dX6_lengthOf_12 (by decide) (fun c12 => ?_) (fun c12 => ?_)
    · have hok := hok.2 c12
      have hq := o_qn hq c12
      refine r_sipush (pc := 21) (v := 240) hc dX6_lengthOf_21 (by decide) ?_
      exact r_iret hc hr rfl dX6_lengthOf_24 (hq _ rfl)
    · have hok := hok.1 c12
      have hq := o_qp hq c12
      refine r_sipush (pc := 15) (v := 255) hc dX6_lengthOf_15 (by decide) ?_
      refine r_goto (pc := 18) (tgt := 24) hc dX6_lengthOf_18 (by decide) ?_
      exact r_iret hc hr rfl dX6_lengthOf_24 (hq _ rfl)
  · have hok := hok.1 c1
    have hq := o_qp hq c1
    refine r_sipush (pc := 4) (v := 272) hc dX6_lengthOf_4 (by decide) ?_
    refine r_goto (pc := 7) (tgt := 24) hc dX6_lengthOf_7 (by decide) ?_
    exact r_iret hc hr rfl dX6_lengthOf_24 (hq _ rfl)
noncomputable def f_X6_isReading (p0 : Int32) (p1 : Int32) (σ : Sg) : Int32 :=
  (f_X6_in p1 0 ((f_X6_lengthOf p0 σ) - 1) σ)
def ok_X6_isReading (p0 : Int32) (p1 : Int32) (σ : Sg) : Prop :=
  (ok_X6_lengthOf p0 σ) ∧ ((ok_X6_in p1 0 ((f_X6_lengthOf p0 σ) - 1) σ) ∧ ((narrow .boolean (.int (f_X6_in p1 0 ((f_X6_lengthOf p0 σ) - 1) σ)) = .int (f_X6_in p1 0 ((f_X6_lengthOf p0 σ) - 1) σ)) ∧ (True)))
set_option maxHeartbeats 4000000 in
set_option maxRecDepth 100000 in
theorem c_X6_isReading (l : Launch) (G : Gt) {p0 : Int32} {p1 : Int32}  {σ : Sg} (hok : ok_X6_isReading p0 p1 σ) : o_Ci l G yX6_isReading cX6_isReading 2 (some .boolean) 1 22 [.int p0, .int p1] σ (fun r σ' => r = f_X6_isReading p0 p1 σ ∧ σ' = σ) := by
  refine o_Ci.of (by decide +kernel) (Nat.le_of_ble_eq_true rfl) ?_
  intro p e s m args below meth c hc hr
  have hq : ∀ q : Int32, q = f_X6_isReading p0 p1 σ → (fun r σ' => r = f_X6_isReading p0 p1 σ ∧ σ' = σ) q σ := fun q h => ⟨h, rfl⟩
  refine r_iload_n (pc := 0) hc 1 dX6_isReading_0 rfl rfl ?_
  refine r_iconst (pc := 1) (v := 0) hc dX6_isReading_1 rfl ?_
  refine r_iload_n (pc := 2) hc 0 dX6_isReading_2 rfl rfl ?_
  obtain ⟨hs1, hok⟩ := hok
  refine r_callS_i (pc := 3) (as := [.int _]) hc (c_X6_lengthOf l G hs1) mS_X6_lengthOf kM_X6_75 ⟨Nat.le_of_ble_eq_true rfl, Nat.le_of_ble_eq_true rfl⟩ ⟨Nat.le_refl 0, Nat.le_refl 0⟩ rfl rfl (Nat.le_of_ble_eq_true rfl) dX6_isReading_3 (fun r σ' h => ?_)
  obtain ⟨rfl, rfl⟩ := h
  refine r_iconst (pc := 6) (v := 1) hc dX6_isReading_6 rfl ?_
  refine r_isub (pc := 7) hc dX6_isReading_7 ?_
  obtain ⟨hs2, hok⟩ := hok
  refine r_callS_i (pc := 8) (as := [.int _, .int _, .int _]) hc (c_X6_in l G hs2) mS_X6_in kM_X6_32 ⟨Nat.le_of_ble_eq_true rfl, Nat.le_of_ble_eq_true rfl⟩ ⟨Nat.le_refl 0, Nat.le_refl 0⟩ rfl rfl (Nat.le_of_ble_eq_true rfl) dX6_isReading_8 (fun r σ' h => ?_)
  obtain ⟨rfl, rfl⟩ := h
  obtain ⟨hs3, hok⟩ := hok
  exact r_iret hc hr hs3 dX6_isReading_11 (hq _ rfl)
noncomputable def f_X6_isTrack (p0 : Int32) (σ : Sg) : Int32 :=
  (f_X6_in p0 0 2 σ)
def ok_X6_isTrack (p0 : Int32) (σ : Sg) : Prop :=
  (ok_X6_in p0 0 2 σ) ∧ ((narrow .boolean (.int (f_X6_in p0 0 2 σ)) = .int (f_X6_in p0 0 2 σ)) ∧ (True))
set_option maxHeartbeats 4000000 in
set_option maxRecDepth 100000 in
theorem c_X6_isTrack (l : Launch) (G : Gt) {p0 : Int32}  {σ : Sg} (hok : ok_X6_isTrack p0 σ) : o_Ci l G yX6_isTrack cX6_isTrack 1 (some .boolean) 1 22 [.int p0] σ (fun r σ' => r = f_X6_isTrack p0 σ ∧ σ' = σ) := by
  refine o_Ci.of (by decide +kernel) (Nat.le_of_ble_eq_true rfl) ?_
  intro p e s m args below meth c hc hr
  have hq : ∀ q : Int32, q = f_X6_isTrack p0 σ → (fun r σ' => r = f_X6_isTrack p0 σ ∧ σ' = σ) q σ := fun q h => ⟨h, rfl⟩
  refine r_iload_n (pc := 0) hc 0 dX6_isTrack_0 rfl rfl ?_
  refine r_iconst (pc := 1) (v := 0) hc dX6_isTrack_1 rfl ?_
  refine r_iconst (pc := 2) (v := 2) hc dX6_isTrack_2 rfl ?_
  obtain ⟨hs1, hok⟩ := hok
  refine r_callS_i (pc := 3) (as := [.int _, .int _, .int _]) hc (c_X6_in l G hs1) mS_X6_in kM_X6_32 ⟨Nat.le_of_ble_eq_true rfl, Nat.le_of_ble_eq_true rfl⟩ ⟨Nat.le_refl 0, Nat.le_refl 0⟩ rfl rfl (Nat.le_of_ble_eq_true rfl) dX6_isTrack_3 (fun r σ' h => ?_)
  obtain ⟨rfl, rfl⟩ := h
  obtain ⟨hs2, hok⟩ := hok
  exact r_iret hc hr hs2 dX6_isTrack_6 (hq _ rfl)
noncomputable def f_X6_byTwo_41  : Nat → Int32 → Int32 → Int32 → Int32 → Sg → Int32
  | 0 => fun _ _ _ _ σ => 0
  | n + 1 => fun x1 x3 x4 x5 σ =>
    o_ite (4080 ≤ x5) (
      (-4)) (
      o_ite ((x5 - x5 / (f_X6_lengthOf x3 σ) * (f_X6_lengthOf x3 σ)) = x4) (
        x5) (
        f_X6_byTwo_41 n x1 x3 x4 (x5 + (f_X6_lengthOf x1 σ)) σ))
def ok_X6_byTwo_41  : Nat → Int32 → Int32 → Int32 → Int32 → Sg → Prop
  | 0 => fun _ _ _ _ _ => False
  | n + 1 => fun x1 x3 x4 x5 σ =>
    ((4080 ≤ x5) →
      True) ∧ (¬ (4080 ≤ x5) →
      (ok_X6_lengthOf x3 σ) ∧ ((¬ (f_X6_lengthOf x3 σ) = 0) ∧ ((((x5 - x5 / (f_X6_lengthOf x3 σ) * (f_X6_lengthOf x3 σ)) = x4) →
        True) ∧ (¬ ((x5 - x5 / (f_X6_lengthOf x3 σ) * (f_X6_lengthOf x3 σ)) = x4) →
        (ok_X6_lengthOf x1 σ) ∧ (ok_X6_byTwo_41  n x1 x3 x4 (x5 + (f_X6_lengthOf x1 σ)) σ)))))
noncomputable def f_X6_byTwo (p1 : Int32) (p2 : Int32) (p3 : Int32) (p4 : Int32) (σ : Sg) : Int32 :=
  o_ite ((f_X6_isTrack p1 σ) = 0) (
    (-1)) (
    o_ite ((f_X6_isTrack p3 σ) = 0) (
      (-1)) (
      o_ite (p1 = p3) (
        (-1)) (
        o_ite ((f_X6_isReading p1 p2 σ) = 0) (
          (-1)) (
          o_ite ((f_X6_isReading p3 p4 σ) = 0) (
            (-1)) (
            f_X6_byTwo_41  oF p1 p3 p4 p2 σ)))))
def ok_X6_byTwo (p1 : Int32) (p2 : Int32) (p3 : Int32) (p4 : Int32) (σ : Sg) : Prop :=
  (ok_X6_isTrack p1 σ) ∧ ((((f_X6_isTrack p1 σ) = 0) →
    True) ∧ (¬ ((f_X6_isTrack p1 σ) = 0) →
    (ok_X6_isTrack p3 σ) ∧ ((((f_X6_isTrack p3 σ) = 0) →
      True) ∧ (¬ ((f_X6_isTrack p3 σ) = 0) →
      ((p1 = p3) →
        True) ∧ (¬ (p1 = p3) →
        (ok_X6_isReading p1 p2 σ) ∧ ((((f_X6_isReading p1 p2 σ) = 0) →
          True) ∧ (¬ ((f_X6_isReading p1 p2 σ) = 0) →
          (ok_X6_isReading p3 p4 σ) ∧ ((((f_X6_isReading p3 p4 σ) = 0) →
            True) ∧ (¬ ((f_X6_isReading p3 p4 σ) = 0) →
            ok_X6_byTwo_41  oF p1 p3 p4 p2 σ)))))))))
set_option maxHeartbeats 4000000 in
set_option maxRecDepth 100000 in
theorem t_X6_byTwo_41 {p : Program} {l : Launch} {e : Env} {s : State} {m : MethodId} {args : Array Value} {below : List Frame} {meth : Method} {c : Code} {G : Gt} {post : Int32 → Sg → Prop}   (hc : o_Cx p s m args meth c G cX6_byTwo yX6_byTwo.cls 6) (hr : meth.sig.returnType = (some .int)) : ∀ (n : Nat) (x1 : Int32) (x3 : Int32) (x4 : Int32) (x5 : Int32) (σ : Sg) (hok : ok_X6_byTwo_41  n x1 x3 x4 x5 σ) (hq : ∀ q : Int32, q = f_X6_byTwo_41  n x1 x3 x4 x5 σ → post q σ), o_V p l e { frames := 2, cells := 0, slots := 0, locals := 43 } s m args below meth c (MQ below (va_Qi post (fun σ' t => o_W G σ' t.heap) (o_A G)) args s 0 0 (o_A G)) G 0 0 6 σ 41 [(1, .int x1), (3, .int x3), (4, .int x4), (5, .int x5)] [] := by
  intro n
  induction n with
  | zero =>
    intro x1 x3 x4 x5 σ hok hq
    exact hok.elim
  | succ n ih =>
    intro x1 x3 x4 x5 σ hok hq
    refine r_iload (pc := 41) hc 3 dX6_byTwo_41 rfl ?_
    refine r_sipush (pc := 43) (v := 4080) hc dX6_byTwo_43 (by decide) ?_
    refine r_icmp_ge (pc := 46) (tgt := 76) hc dX6_byTwo_46 (by decide) (fun c46 => ?_) (fun c46 => ?_)
    · have hok := hok.1 c46
      have hq := o_qp hq c46
      refine r_bipush (pc := 76) (v := (-4)) hc dX6_byTwo_76 (by decide) ?_
      exact r_iret hc hr rfl dX6_byTwo_78 (hq _ rfl)
    · have hok := hok.2 c46
      have hq := o_qn hq c46
      refine r_iload (pc := 49) hc 3 dX6_byTwo_49 rfl ?_
      refine r_iload_n (pc := 51) hc 1 dX6_byTwo_51 rfl rfl ?_
      obtain ⟨hs1, hok⟩ := hok
      refine r_callS_i (pc := 52) (as := [.int _]) hc (c_X6_lengthOf l G hs1) mS_X6_lengthOf kM_X6_75 ⟨Nat.le_of_ble_eq_true rfl, Nat.le_of_ble_eq_true rfl⟩ ⟨Nat.le_refl 0, Nat.le_refl 0⟩ rfl rfl (Nat.le_of_ble_eq_true rfl) dX6_byTwo_52 (fun r σ' h => ?_)
      obtain ⟨rfl, rfl⟩ := h
      obtain ⟨hs2, hok⟩ := hok
      refine r_irem (pc := 55) hc dX6_byTwo_55 hs2 ?_
      refine r_iload (pc := 56) hc 2 dX6_byTwo_56 rfl ?_
      refine r_icmp_ne (pc := 58) (tgt := 64) hc dX6_byTwo_58 (by decide) (fun c58 => ?_) (fun c58 => ?_)
      · have hok := hok.2 c58
        have hq := o_qn hq c58
        refine r_iload (pc := 64) hc 3 dX6_byTwo_64 rfl ?_
        refine r_iload_n (pc := 66) hc 0 dX6_byTwo_66 rfl rfl ?_
        obtain ⟨hs3, hok⟩ := hok
        refine r_callS_i (pc := 67) (as := [.int _]) hc (c_X6_lengthOf l G hs3) mS_X6_lengthOf kM_X6_75 ⟨Nat.le_of_ble_eq_true rfl, Nat.le_of_ble_eq_true rfl⟩ ⟨Nat.le_refl 0, Nat.le_refl 0⟩ rfl rfl (Nat.le_of_ble_eq_true rfl) dX6_byTwo_67 (fun r σ' h => ?_)
        obtain ⟨rfl, rfl⟩ := h
        refine r_iadd (pc := 70) hc dX6_byTwo_70 ?_
        refine r_istore (pc := 71) (lv' := [(5, _), (1, _), (3, _), (4, _)]) hc dX6_byTwo_71 (by decide) rfl ?_
        refine r_goto (pc := 73) (tgt := 41) hc dX6_byTwo_73 (by decide) ?_
        exact o_V.sub (ih _ _ _ _ _ hok hq) [1, 2, 3, 0] rfl
      · have hok := hok.1 c58
        have hq := o_qp hq c58
        refine r_iload (pc := 61) hc 3 dX6_byTwo_61 rfl ?_
        exact r_iret hc hr rfl dX6_byTwo_63 (hq _ rfl)
set_option maxHeartbeats 4000000 in
set_option maxRecDepth 100000 in
theorem c_X6_byTwo (l : Launch) (G : Gt) {p1 : Int32} {p2 : Int32} {p3 : Int32} {p4 : Int32}  {σ : Sg} (hok : ok_X6_byTwo p1 p2 p3 p4 σ) : o_Ci l G yX6_byTwo cX6_byTwo 6 (some .int) 2 43 [.ref (gAd G 34), .int p1, .int p2, .int p3, .int p4] σ (fun r σ' => r = f_X6_byTwo p1 p2 p3 p4 σ ∧ σ' = σ) := by
  refine o_Ci.of (by decide +kernel) (Nat.le_of_ble_eq_true rfl) ?_
  intro p e s m args below meth c hc hr
  have hq : ∀ q : Int32, q = f_X6_byTwo p1 p2 p3 p4 σ → (fun r σ' => r = f_X6_byTwo p1 p2 p3 p4 σ ∧ σ' = σ) q σ := fun q h => ⟨h, rfl⟩
  refine r_iload_n (pc := 0) hc 1 dX6_byTwo_0 rfl rfl ?_
  obtain ⟨hs1, hok⟩ := hok
  refine r_callS_i (pc := 1) (as := [.int _]) hc (c_X6_isTrack l G hs1) mS_X6_isTrack kM_X6_36 ⟨Nat.le_of_ble_eq_true rfl, Nat.le_of_ble_eq_true rfl⟩ ⟨Nat.le_refl 0, Nat.le_refl 0⟩ rfl rfl (Nat.le_of_ble_eq_true rfl) dX6_byTwo_1 (fun r σ' h => ?_)
  obtain ⟨rfl, rfl⟩ := h
  refine r_if_eq (pc := 4) (tgt := 36) hc dX6_byTwo_4 (by decide) (fun c4 => ?_) (fun c4 => ?_)
  · have hok := hok.1 c4
    have hq := o_qp hq c4
    refine r_iconst (pc := 36) (v := (-1)) hc dX6_byTwo_36 rfl ?_
    exact r_iret hc hr rfl dX6_byTwo_37 (hq _ rfl)
  · have hok := hok.2 c4
    have hq := o_qn hq c4
    refine r_iload_n (pc := 7) hc 3 dX6_byTwo_7 rfl rfl ?_
    obtain ⟨hs2, hok⟩ := hok
    refine r_callS_i (pc := 8) (as := [.int _]) hc (c_X6_isTrack l G hs2) mS_X6_isTrack kM_X6_36 ⟨Nat.le_of_ble_eq_true rfl, Nat.le_of_ble_eq_true rfl⟩ ⟨Nat.le_refl 0, Nat.le_refl 0⟩ rfl rfl (Nat.le_of_ble_eq_true rfl) dX6_byTwo_8 (fun r σ' h => ?_)
    obtain ⟨rfl, rfl⟩ := h
    refine r_if_eq (pc := 11) (tgt := 36) hc dX6_byTwo_11 (by decide) (fun c11 => ?_) (fun c11 => ?_)
    · have hok := hok.1 c11
      have hq := o_qp hq c11
      refine r_iconst (pc := 36) (v := (-1)) hc dX6_byTwo_36 rfl ?_
      exact r_iret hc hr rfl dX6_byTwo_37 (hq _ rfl)
    · have hok := hok.2 c11
      have hq := o_qn hq c11
      refine r_iload_n (pc := 14) hc 1 dX6_byTwo_14 rfl rfl ?_
      refine r_iload_n (pc := 15) hc 3 dX6_byTwo_15 rfl rfl ?_
      refine r_icmp_eq (pc := 16) (tgt := 36) hc dX6_byTwo_16 (by decide) (fun c16 => ?_) (fun c16 => ?_)
      · have hok := hok.1 c16
        have hq := o_qp hq c16
        refine r_iconst (pc := 36) (v := (-1)) hc dX6_byTwo_36 rfl ?_
        exact r_iret hc hr rfl dX6_byTwo_37 (hq _ rfl)
      · have hok := hok.2 c16
        have hq := o_qn hq c16
        refine r_iload_n (pc := 19) hc 1 dX6_byTwo_19 rfl rfl ?_
        refine r_iload_n (pc := 20) hc 2 dX6_byTwo_20 rfl rfl ?_
        obtain ⟨hs3, hok⟩ := hok
        refine r_callS_i (pc := 21) (as := [.int _, .int _]) hc (c_X6_isReading l G hs3) mS_X6_isReading kM_X6_95 ⟨Nat.le_of_ble_eq_true rfl, Nat.le_of_ble_eq_true rfl⟩ ⟨Nat.le_refl 0, Nat.le_refl 0⟩ rfl rfl (Nat.le_of_ble_eq_true rfl) dX6_byTwo_21 (fun r σ' h => ?_)
        obtain ⟨rfl, rfl⟩ := h
        refine r_if_eq (pc := 24) (tgt := 36) hc dX6_byTwo_24 (by decide) (fun c24 => ?_) (fun c24 => ?_)
        · have hok := hok.1 c24
          have hq := o_qp hq c24
          refine r_iconst (pc := 36) (v := (-1)) hc dX6_byTwo_36 rfl ?_
          exact r_iret hc hr rfl dX6_byTwo_37 (hq _ rfl)
        · have hok := hok.2 c24
          have hq := o_qn hq c24
          refine r_iload_n (pc := 27) hc 3 dX6_byTwo_27 rfl rfl ?_
          refine r_iload (pc := 28) hc 4 dX6_byTwo_28 rfl ?_
          obtain ⟨hs4, hok⟩ := hok
          refine r_callS_i (pc := 30) (as := [.int _, .int _]) hc (c_X6_isReading l G hs4) mS_X6_isReading kM_X6_95 ⟨Nat.le_of_ble_eq_true rfl, Nat.le_of_ble_eq_true rfl⟩ ⟨Nat.le_refl 0, Nat.le_refl 0⟩ rfl rfl (Nat.le_of_ble_eq_true rfl) dX6_byTwo_30 (fun r σ' h => ?_)
          obtain ⟨rfl, rfl⟩ := h
          refine r_if_ne (pc := 33) (tgt := 38) hc dX6_byTwo_33 (by decide) (fun c33 => ?_) (fun c33 => ?_)
          · have hok := hok.2 c33
            have hq := o_qn hq c33
            refine r_iload_n (pc := 38) hc 2 dX6_byTwo_38 rfl rfl ?_
            refine r_istore (pc := 39) (lv' := [(5, _), (0, _), (1, _), (2, _), (3, _), (4, _)]) hc dX6_byTwo_39 (by decide) rfl ?_
            exact o_V.sub (t_X6_byTwo_41  hc hr oF _ _ _ _ _ hok hq) [2, 4, 5, 0] rfl
          · have hok := hok.1 c33
            have hq := o_qp hq c33
            refine r_iconst (pc := 36) (v := (-1)) hc dX6_byTwo_36 rfl ?_
            exact r_iret hc hr rfl dX6_byTwo_37 (hq _ rfl)
noncomputable def f_X6_charge (p1 : Int32) (σ : Sg) : Int32 × Sg :=
  o_ite ((f_X6_in p1 0 999 σ) = 0) (
    ((-1), σ)) (
    let q3 := f_X6_puts 3 p1 σ
    (q3.1, q3.2))
def ok_X6_charge (p1 : Int32) (σ : Sg) : Prop :=
  (ok_X6_in p1 0 999 σ) ∧ ((((f_X6_in p1 0 999 σ) = 0) →
    True) ∧ (¬ ((f_X6_in p1 0 999 σ) = 0) →
    (ok_X6_puts 3 p1 σ) ∧ (let q3 := f_X6_puts 3 p1 σ
    True)))
set_option maxHeartbeats 4000000 in
set_option maxRecDepth 100000 in
theorem c_X6_charge (l : Launch) (G : Gt) {p1 : Int32}  {σ : Sg} (hok : ok_X6_charge p1 σ) : o_Ci l G yX6_charge cX6_charge 2 (some .int) 2 44 [.ref (gAd G 34), .int p1] σ (fun r σ' => r = (f_X6_charge p1 σ).1 ∧ σ' = (f_X6_charge p1 σ).2) := by
  refine o_Ci.of (by decide +kernel) (Nat.le_of_ble_eq_true rfl) ?_
  intro p e s m args below meth c hc hr
  have hq : ∀ q : Int32 × Sg, q = f_X6_charge p1 σ → (fun r σ' => r = (f_X6_charge p1 σ).1 ∧ σ' = (f_X6_charge p1 σ).2) q.1 q.2 := fun q h => ⟨congrArg Prod.fst h, congrArg Prod.snd h⟩
  refine r_iload_n (pc := 0) hc 1 dX6_charge_0 rfl rfl ?_
  refine r_iconst (pc := 1) (v := 0) hc dX6_charge_1 rfl ?_
  refine r_sipush (pc := 2) (v := 999) hc dX6_charge_2 (by decide) ?_
  obtain ⟨hs1, hok⟩ := hok
  refine r_callS_i (pc := 5) (as := [.int _, .int _, .int _]) hc (c_X6_in l G hs1) mS_X6_in kM_X6_32 ⟨Nat.le_of_ble_eq_true rfl, Nat.le_of_ble_eq_true rfl⟩ ⟨Nat.le_refl 0, Nat.le_refl 0⟩ rfl rfl (Nat.le_of_ble_eq_true rfl) dX6_charge_5 (fun r σ' h => ?_)
  obtain ⟨rfl, rfl⟩ := h
  refine r_if_eq (pc := 8) (tgt := 20) hc dX6_charge_8 (by decide) (fun c8 => ?_) (fun c8 => ?_)
  · have hok := hok.1 c8
    have hq := o_qp hq c8
    refine r_iconst (pc := 20) (v := (-1)) hc dX6_charge_20 rfl ?_
    exact r_iret hc hr rfl dX6_charge_21 (hq (_, _) rfl)
  · have hok := hok.2 c8
    have hq := o_qn hq c8
    refine r_aload_n (pc := 11) hc 0 dX6_charge_11 rfl rfl ?_
    refine r_iconst (pc := 12) (v := 3) hc dX6_charge_12 rfl ?_
    refine r_iload_n (pc := 13) hc 1 dX6_charge_13 rfl rfl ?_
    obtain ⟨hs2, hok⟩ := hok
    refine r_callV_i (pc := 14) (as := [.int _, .int _]) hc (c_X6_puts l G hs2) kk6 (by decide) rfl mV_X6_puts kM_X6_52 ⟨Nat.le_of_ble_eq_true rfl, Nat.le_of_ble_eq_true rfl⟩ ⟨Nat.le_refl 0, Nat.le_refl 0⟩ rfl rfl (Nat.le_of_ble_eq_true rfl) dX6_charge_14 (fun r σ' h => ?_)
    obtain ⟨rfl, rfl⟩ := h
    refine r_goto (pc := 17) (tgt := 21) hc dX6_charge_17 (by decide) ?_
    exact r_iret hc hr rfl dX6_charge_21 (hq (_, _) rfl)
noncomputable def f_X6_clearText  (σ : Sg) : Int32 × Sg :=
  let σ1 := pu σ 34 4 0
  ((σ 34 4), σ1)
def ok_X6_clearText  (σ : Sg) : Prop :=
  let σ1 := pu σ 34 4 0
  True
set_option maxHeartbeats 4000000 in
set_option maxRecDepth 100000 in
theorem c_X6_clearText (l : Launch) (G : Gt)   {σ : Sg} (hok : ok_X6_clearText  σ) : o_Ci l G yX6_clearText cX6_clearText 2 (some .int) 0 0 [.ref (gAd G 34)] σ (fun r σ' => r = (f_X6_clearText  σ).1 ∧ σ' = (f_X6_clearText  σ).2) := by
  refine o_Ci.of (by decide +kernel) (Nat.le_of_ble_eq_true rfl) ?_
  intro p e s m args below meth c hc hr
  have hq : ∀ q : Int32 × Sg, q = f_X6_clearText  σ → (fun r σ' => r = (f_X6_clearText  σ).1 ∧ σ' = (f_X6_clearText  σ).2) q.1 q.2 := fun q h => ⟨congrArg Prod.fst h, congrArg Prod.snd h⟩
  refine r_aload_n (pc := 0) hc 0 dX6_clearText_0 rfl rfl ?_
  refine r_geti (pc := 1) hc 4 kk6 (by decide) rfl (by decide) kF_X6_65 rfl rfl dX6_clearText_1 ?_
  refine r_istore_n (pc := 4) (lv' := [(1, _), (0, _)]) hc dX6_clearText_4 rfl (by decide) rfl ?_
  refine r_aload_n (pc := 5) hc 1 dX6_clearText_5 rfl rfl ?_
  refine r_iconst (pc := 6) (v := 0) hc dX6_clearText_6 rfl ?_
  refine r_put (pc := 7) hc 4 kk6 (by decide) rfl (by decide) kF_X6_65 rfl rfl rfl rfl rfl dX6_clearText_7 ?_
  refine r_iload_n (pc := 10) hc 0 dX6_clearText_10 rfl rfl ?_
  exact r_iret hc hr rfl dX6_clearText_11 (hq (_, _) rfl)
noncomputable def f_X6_coarse  (σ : Sg) : Int32 :=
  let r3 := f_X6_rest ((((f_X6_angle σ) * 64) / 4080) + (σ 35 10)) 64 σ
  r3
def ok_X6_coarse  (σ : Sg) : Prop :=
  (ok_X6_angle σ) ∧ ((ok_X6_rest ((((f_X6_angle σ) * 64) / 4080) + (σ 35 10)) 64 σ) ∧ (let r3 := f_X6_rest ((((f_X6_angle σ) * 64) / 4080) + (σ 35 10)) 64 σ
  True))
set_option maxHeartbeats 4000000 in
set_option maxRecDepth 100000 in
theorem c_X6_coarse (l : Launch) (G : Gt)   {σ : Sg} (hok : ok_X6_coarse  σ) : o_Ci l G yX6_coarse cX6_coarse 1 (some .int) 1 22 [.ref (gAd G 34)] σ (fun r σ' => r = f_X6_coarse  σ ∧ σ' = σ) := by
  refine o_Ci.of (by decide +kernel) (Nat.le_of_ble_eq_true rfl) ?_
  intro p e s m args below meth c hc hr
  have hq : ∀ q : Int32, q = f_X6_coarse  σ → (fun r σ' => r = f_X6_coarse  σ ∧ σ' = σ) q σ := fun q h => ⟨h, rfl⟩
  refine r_aload_n (pc := 0) hc 0 dX6_coarse_0 rfl rfl ?_
  obtain ⟨hs1, hok⟩ := hok
  refine r_callV_i (pc := 1) (as := []) hc (c_X6_angle l G hs1) kk6 (by decide) rfl mV_X6_angle kM_X6_55 ⟨Nat.le_of_ble_eq_true rfl, Nat.le_of_ble_eq_true rfl⟩ ⟨Nat.le_refl 0, Nat.le_refl 0⟩ rfl rfl (Nat.le_of_ble_eq_true rfl) dX6_coarse_1 (fun r σ' h => ?_)
  obtain ⟨rfl, rfl⟩ := h
  refine r_bipush (pc := 4) (v := 64) hc dX6_coarse_4 (by decide) ?_
  refine r_imul (pc := 6) hc dX6_coarse_6 ?_
  refine r_sipush (pc := 7) (v := 4080) hc dX6_coarse_7 (by decide) ?_
  refine r_idiv (pc := 10) hc dX6_coarse_10 (by decide) ?_
  refine r_aload_n (pc := 11) hc 0 dX6_coarse_11 rfl rfl ?_
  refine r_getr (pc := 12) (j := 35) hc 0 kk6 (by decide) rfl (by decide) kF_X6_7 rfl rfl dX6_coarse_12 ?_
  refine r_bipush (pc := 15) (v := 10) hc dX6_coarse_15 (by decide) ?_
  refine r_iald (pc := 17) (k := 10) hc (by decide) rfl (by unfold vp_in; decide) (by decide) dX6_coarse_17 ?_
  refine r_iadd (pc := 18) hc dX6_coarse_18 ?_
  refine r_bipush (pc := 19) (v := 64) hc dX6_coarse_19 (by decide) ?_
  obtain ⟨hs2, hok⟩ := hok
  refine r_callS_i (pc := 21) (as := [.int _, .int _]) hc (c_X6_rest l G hs2) mS_X6_rest kM_X6_28 ⟨Nat.le_of_ble_eq_true rfl, Nat.le_of_ble_eq_true rfl⟩ ⟨Nat.le_refl 0, Nat.le_refl 0⟩ rfl rfl (Nat.le_of_ble_eq_true rfl) dX6_coarse_21 (fun r σ' h => ?_)
  obtain ⟨rfl, rfl⟩ := h
  exact r_iret hc hr rfl dX6_coarse_24 (hq _ rfl)
noncomputable def f_X6_isCell (p0 : Int32) (p1 : Int32) (σ : Sg) : Int32 :=
  o_ite ((f_X6_isTrack p0 σ) = 0) (
    0) (
    o_ite ((f_X6_in p1 0 7 σ) = 0) (
      0) (
      1))
def ok_X6_isCell (p0 : Int32) (p1 : Int32) (σ : Sg) : Prop :=
  (ok_X6_isTrack p0 σ) ∧ ((((f_X6_isTrack p0 σ) = 0) →
    True) ∧ (¬ ((f_X6_isTrack p0 σ) = 0) →
    (ok_X6_in p1 0 7 σ) ∧ ((((f_X6_in p1 0 7 σ) = 0) →
      True) ∧ (¬ ((f_X6_in p1 0 7 σ) = 0) →
      True))))
set_option maxHeartbeats 4000000 in
set_option maxRecDepth 100000 in
theorem c_X6_isCell (l : Launch) (G : Gt) {p0 : Int32} {p1 : Int32}  {σ : Sg} (hok : ok_X6_isCell p0 p1 σ) : o_Ci l G yX6_isCell cX6_isCell 2 (some .boolean) 2 42 [.int p0, .int p1] σ (fun r σ' => r = f_X6_isCell p0 p1 σ ∧ σ' = σ) := by
  refine o_Ci.of (by decide +kernel) (Nat.le_of_ble_eq_true rfl) ?_
  intro p e s m args below meth c hc hr
  have hq : ∀ q : Int32, q = f_X6_isCell p0 p1 σ → (fun r σ' => r = f_X6_isCell p0 p1 σ ∧ σ' = σ) q σ := fun q h => ⟨h, rfl⟩
  refine r_iload_n (pc := 0) hc 0 dX6_isCell_0 rfl rfl ?_
  obtain ⟨hs1, hok⟩ := hok
  refine r_callS_i (pc := 1) (as := [.int _]) hc (c_X6_isTrack l G hs1) mS_X6_isTrack kM_X6_36 ⟨Nat.le_of_ble_eq_true rfl, Nat.le_of_ble_eq_true rfl⟩ ⟨Nat.le_refl 0, Nat.le_refl 0⟩ rfl rfl (Nat.le_of_ble_eq_true rfl) dX6_isCell_1 (fun r σ' h => ?_)
  obtain ⟨rfl, rfl⟩ := h
  refine r_if_eq (pc := 4) (tgt := 21) hc dX6_isCell_4 (by decide) (fun c4 => ?_) (fun c4 => ?_)
  · have hok := hok.1 c4
    have hq := o_qp hq c4
    refine r_iconst (pc := 21) (v := 0) hc dX6_isCell_21 rfl ?_
    exact r_iret hc hr rfl dX6_isCell_22 (hq _ rfl)
  · have hok := hok.2 c4
    have hq := o_qn hq c4
    refine r_iload_n (pc := 7) hc 1 dX6_isCell_7 rfl rfl ?_
    refine r_iconst (pc := 8) (v := 0) hc dX6_isCell_8 rfl ?_
    refine r_bipush (pc := 9) (v := 7) hc dX6_isCell_9 (by decide) ?_
    obtain ⟨hs2, hok⟩ := hok
    refine r_callS_i (pc := 11) (as := [.int _, .int _, .int _]) hc (c_X6_in l G hs2) mS_X6_in kM_X6_32 ⟨Nat.le_of_ble_eq_true rfl, Nat.le_of_ble_eq_true rfl⟩ ⟨Nat.le_refl 0, Nat.le_refl 0⟩ rfl rfl (Nat.le_of_ble_eq_true rfl) dX6_isCell_11 (fun r σ' h => ?_)
    obtain ⟨rfl, rfl⟩ := h
    refine r_if_eq (pc := 14) (tgt := 21) hc dX6_isCell_14 (by decide) (fun c14 => ?_) (fun c14 => ?_)
    · have hok := hok.1 c14
      have hq := o_qp hq c14
      refine r_iconst (pc := 21) (v := 0) hc dX6_isCell_21 rfl ?_
      exact r_iret hc hr rfl dX6_isCell_22 (hq _ rfl)
    · have hok := hok.2 c14
      have hq := o_qn hq c14
      refine r_iconst (pc := 17) (v := 1) hc dX6_isCell_17 rfl ?_
      refine r_goto (pc := 18) (tgt := 22) hc dX6_isCell_18 (by decide) ?_
      exact r_iret hc hr rfl dX6_isCell_22 (hq _ rfl)
noncomputable def f_X6_isCorrection (p0 : Int32) (σ : Sg) : Int32 :=
  (f_X6_in p0 (-20) 20 σ)
def ok_X6_isCorrection (p0 : Int32) (σ : Sg) : Prop :=
  (ok_X6_in p0 (-20) 20 σ) ∧ ((narrow .boolean (.int (f_X6_in p0 (-20) 20 σ)) = .int (f_X6_in p0 (-20) 20 σ)) ∧ (True))
set_option maxHeartbeats 4000000 in
set_option maxRecDepth 100000 in
theorem c_X6_isCorrection (l : Launch) (G : Gt) {p0 : Int32}  {σ : Sg} (hok : ok_X6_isCorrection p0 σ) : o_Ci l G yX6_isCorrection cX6_isCorrection 1 (some .boolean) 1 22 [.int p0] σ (fun r σ' => r = f_X6_isCorrection p0 σ ∧ σ' = σ) := by
  refine o_Ci.of (by decide +kernel) (Nat.le_of_ble_eq_true rfl) ?_
  intro p e s m args below meth c hc hr
  have hq : ∀ q : Int32, q = f_X6_isCorrection p0 σ → (fun r σ' => r = f_X6_isCorrection p0 σ ∧ σ' = σ) q σ := fun q h => ⟨h, rfl⟩
  refine r_iload_n (pc := 0) hc 0 dX6_isCorrection_0 rfl rfl ?_
  refine r_bipush (pc := 1) (v := (-20)) hc dX6_isCorrection_1 (by decide) ?_
  refine r_bipush (pc := 3) (v := 20) hc dX6_isCorrection_3 (by decide) ?_
  obtain ⟨hs1, hok⟩ := hok
  refine r_callS_i (pc := 5) (as := [.int _, .int _, .int _]) hc (c_X6_in l G hs1) mS_X6_in kM_X6_32 ⟨Nat.le_of_ble_eq_true rfl, Nat.le_of_ble_eq_true rfl⟩ ⟨Nat.le_refl 0, Nat.le_refl 0⟩ rfl rfl (Nat.le_of_ble_eq_true rfl) dX6_isCorrection_5 (fun r σ' h => ?_)
  obtain ⟨rfl, rfl⟩ := h
  obtain ⟨hs2, hok⟩ := hok
  exact r_iret hc hr hs2 dX6_isCorrection_8 (hq _ rfl)
noncomputable def f_X6_correct (p1 : Int32) (p2 : Int32) (p3 : Int32) (σ : Sg) : Int32 × Sg :=
  o_ite ((f_X6_isCell p1 p2 σ) = 0) (
    ((-1), σ)) (
    o_ite ((f_X6_isCorrection p3 σ) = 0) (
      ((-1), σ)) (
      let q4 := f_X6_puts ((38 + (8 * p1)) + p2) p3 σ
      ((q4.1 + 100), q4.2)))
def ok_X6_correct (p1 : Int32) (p2 : Int32) (p3 : Int32) (σ : Sg) : Prop :=
  (ok_X6_isCell p1 p2 σ) ∧ ((((f_X6_isCell p1 p2 σ) = 0) →
    True) ∧ (¬ ((f_X6_isCell p1 p2 σ) = 0) →
    (ok_X6_isCorrection p3 σ) ∧ ((((f_X6_isCorrection p3 σ) = 0) →
      True) ∧ (¬ ((f_X6_isCorrection p3 σ) = 0) →
      (ok_X6_puts ((38 + (8 * p1)) + p2) p3 σ) ∧ (let q4 := f_X6_puts ((38 + (8 * p1)) + p2) p3 σ
      True)))))
set_option maxHeartbeats 4000000 in
set_option maxRecDepth 100000 in
theorem c_X6_correct (l : Launch) (G : Gt) {p1 : Int32} {p2 : Int32} {p3 : Int32}  {σ : Sg} (hok : ok_X6_correct p1 p2 p3 σ) : o_Ci l G yX6_correct cX6_correct 4 (some .int) 3 63 [.ref (gAd G 34), .int p1, .int p2, .int p3] σ (fun r σ' => r = (f_X6_correct p1 p2 p3 σ).1 ∧ σ' = (f_X6_correct p1 p2 p3 σ).2) := by
  refine o_Ci.of (by decide +kernel) (Nat.le_of_ble_eq_true rfl) ?_
  intro p e s m args below meth c hc hr
  have hq : ∀ q : Int32 × Sg, q = f_X6_correct p1 p2 p3 σ → (fun r σ' => r = (f_X6_correct p1 p2 p3 σ).1 ∧ σ' = (f_X6_correct p1 p2 p3 σ).2) q.1 q.2 := fun q h => ⟨congrArg Prod.fst h, congrArg Prod.snd h⟩
  refine r_iload_n (pc := 0) hc 1 dX6_correct_0 rfl rfl ?_
  refine r_iload_n (pc := 1) hc 2 dX6_correct_1 rfl rfl ?_
  obtain ⟨hs1, hok⟩ := hok
  refine r_callS_i (pc := 2) (as := [.int _, .int _]) hc (c_X6_isCell l G hs1) mS_X6_isCell kM_X6_68 ⟨Nat.le_of_ble_eq_true rfl, Nat.le_of_ble_eq_true rfl⟩ ⟨Nat.le_refl 0, Nat.le_refl 0⟩ rfl rfl (Nat.le_of_ble_eq_true rfl) dX6_correct_2 (fun r σ' h => ?_)
  obtain ⟨rfl, rfl⟩ := h
  refine r_if_eq (pc := 5) (tgt := 15) hc dX6_correct_5 (by decide) (fun c5 => ?_) (fun c5 => ?_)
  · have hok := hok.1 c5
    have hq := o_qp hq c5
    refine r_iconst (pc := 15) (v := (-1)) hc dX6_correct_15 rfl ?_
    exact r_iret hc hr rfl dX6_correct_16 (hq (_, _) rfl)
  · have hok := hok.2 c5
    have hq := o_qn hq c5
    refine r_iload_n (pc := 8) hc 3 dX6_correct_8 rfl rfl ?_
    obtain ⟨hs2, hok⟩ := hok
    refine r_callS_i (pc := 9) (as := [.int _]) hc (c_X6_isCorrection l G hs2) mS_X6_isCorrection kM_X6_98 ⟨Nat.le_of_ble_eq_true rfl, Nat.le_of_ble_eq_true rfl⟩ ⟨Nat.le_refl 0, Nat.le_refl 0⟩ rfl rfl (Nat.le_of_ble_eq_true rfl) dX6_correct_9 (fun r σ' h => ?_)
    obtain ⟨rfl, rfl⟩ := h
    refine r_if_ne (pc := 12) (tgt := 17) hc dX6_correct_12 (by decide) (fun c12 => ?_) (fun c12 => ?_)
    · have hok := hok.2 c12
      have hq := o_qn hq c12
      refine r_aload_n (pc := 17) hc 0 dX6_correct_17 rfl rfl ?_
      refine r_bipush (pc := 18) (v := 38) hc dX6_correct_18 (by decide) ?_
      refine r_bipush (pc := 20) (v := 8) hc dX6_correct_20 (by decide) ?_
      refine r_iload_n (pc := 22) hc 1 dX6_correct_22 rfl rfl ?_
      refine r_imul (pc := 23) hc dX6_correct_23 ?_
      refine r_iadd (pc := 24) hc dX6_correct_24 ?_
      refine r_iload_n (pc := 25) hc 2 dX6_correct_25 rfl rfl ?_
      refine r_iadd (pc := 26) hc dX6_correct_26 ?_
      refine r_iload_n (pc := 27) hc 3 dX6_correct_27 rfl rfl ?_
      obtain ⟨hs3, hok⟩ := hok
      refine r_callV_i (pc := 28) (as := [.int _, .int _]) hc (c_X6_puts l G hs3) kk6 (by decide) rfl mV_X6_puts kM_X6_52 ⟨Nat.le_of_ble_eq_true rfl, Nat.le_of_ble_eq_true rfl⟩ ⟨Nat.le_refl 0, Nat.le_refl 0⟩ rfl rfl (Nat.le_of_ble_eq_true rfl) dX6_correct_28 (fun r σ' h => ?_)
      obtain ⟨rfl, rfl⟩ := h
      refine r_bipush (pc := 31) (v := 100) hc dX6_correct_31 (by decide) ?_
      refine r_iadd (pc := 33) hc dX6_correct_33 ?_
      exact r_iret hc hr rfl dX6_correct_34 (hq (_, _) rfl)
    · have hok := hok.1 c12
      have hq := o_qp hq c12
      refine r_iconst (pc := 15) (v := (-1)) hc dX6_correct_15 rfl ?_
      exact r_iret hc hr rfl dX6_correct_16 (hq (_, _) rfl)
noncomputable def f_X6_corrected (p1 : Int32) (p2 : Int32) (σ : Sg) : Int32 :=
  let r5 := f_X6_rest ((σ 38 p1.toNatClampNeg) - (σ 35 ((38 + (8 * p1)) + p2).toNatClampNeg)) (f_X6_lengthOf p1 σ) σ
  r5
def ok_X6_corrected (p1 : Int32) (p2 : Int32) (σ : Sg) : Prop :=
  (vp_in p1 3) ∧ ((vp_in ((38 + (8 * p1)) + p2) 62) ∧ ((ok_X6_lengthOf p1 σ) ∧ ((ok_X6_rest ((σ 38 p1.toNatClampNeg) - (σ 35 ((38 + (8 * p1)) + p2).toNatClampNeg)) (f_X6_lengthOf p1 σ) σ) ∧ (let r5 := f_X6_rest ((σ 38 p1.toNatClampNeg) - (σ 35 ((38 + (8 * p1)) + p2).toNatClampNeg)) (f_X6_lengthOf p1 σ) σ
  True))))
set_option maxHeartbeats 4000000 in
set_option maxRecDepth 100000 in
theorem c_X6_corrected (l : Launch) (G : Gt) {p1 : Int32} {p2 : Int32}  {σ : Sg} (hok : ok_X6_corrected p1 p2 σ) : o_Ci l G yX6_corrected cX6_corrected 3 (some .int) 1 22 [.ref (gAd G 34), .int p1, .int p2] σ (fun r σ' => r = f_X6_corrected p1 p2 σ ∧ σ' = σ) := by
  refine o_Ci.of (by decide +kernel) (Nat.le_of_ble_eq_true rfl) ?_
  intro p e s m args below meth c hc hr
  have hq : ∀ q : Int32, q = f_X6_corrected p1 p2 σ → (fun r σ' => r = f_X6_corrected p1 p2 σ ∧ σ' = σ) q σ := fun q h => ⟨h, rfl⟩
  refine r_aload_n (pc := 0) hc 0 dX6_corrected_0 rfl rfl ?_
  refine r_getr (pc := 1) (j := 38) hc 7 kk6 (by decide) rfl (by decide) kF_X6_19 rfl rfl dX6_corrected_1 ?_
  refine r_iload_n (pc := 4) hc 1 dX6_corrected_4 rfl rfl ?_
  obtain ⟨hs1, hok⟩ := hok
  refine r_iald (pc := 5) (k := _) hc (by decide) rfl hs1 rfl dX6_corrected_5 ?_
  refine r_aload_n (pc := 6) hc 0 dX6_corrected_6 rfl rfl ?_
  refine r_getr (pc := 7) (j := 35) hc 0 kk6 (by decide) rfl (by decide) kF_X6_7 rfl rfl dX6_corrected_7 ?_
  refine r_bipush (pc := 10) (v := 38) hc dX6_corrected_10 (by decide) ?_
  refine r_bipush (pc := 12) (v := 8) hc dX6_corrected_12 (by decide) ?_
  refine r_iload_n (pc := 14) hc 1 dX6_corrected_14 rfl rfl ?_
  refine r_imul (pc := 15) hc dX6_corrected_15 ?_
  refine r_iadd (pc := 16) hc dX6_corrected_16 ?_
  refine r_iload_n (pc := 17) hc 2 dX6_corrected_17 rfl rfl ?_
  refine r_iadd (pc := 18) hc dX6_corrected_18 ?_
  obtain ⟨hs2, hok⟩ := hok
  refine r_iald (pc := 19) (k := _) hc (by decide) rfl hs2 rfl dX6_corrected_19 ?_
  refine r_isub (pc := 20) hc dX6_corrected_20 ?_
  refine r_iload_n (pc := 21) hc 1 dX6_corrected_21 rfl rfl ?_
  obtain ⟨hs3, hok⟩ := hok
  refine r_callS_i (pc := 22) (as := [.int _]) hc (c_X6_lengthOf l G hs3) mS_X6_lengthOf kM_X6_75 ⟨Nat.le_of_ble_eq_true rfl, Nat.le_of_ble_eq_true rfl⟩ ⟨Nat.le_refl 0, Nat.le_refl 0⟩ rfl rfl (Nat.le_of_ble_eq_true rfl) dX6_corrected_22 (fun r σ' h => ?_)
  obtain ⟨rfl, rfl⟩ := h
  obtain ⟨hs4, hok⟩ := hok
  refine r_callS_i (pc := 25) (as := [.int _, .int _]) hc (c_X6_rest l G hs4) mS_X6_rest kM_X6_28 ⟨Nat.le_of_ble_eq_true rfl, Nat.le_of_ble_eq_true rfl⟩ ⟨Nat.le_refl 0, Nat.le_refl 0⟩ rfl rfl (Nat.le_of_ble_eq_true rfl) dX6_corrected_25 (fun r σ' h => ?_)
  obtain ⟨rfl, rfl⟩ := h
  exact r_iret hc hr rfl dX6_corrected_28 (hq _ rfl)
noncomputable def f_X6_correction (p1 : Int32) (p2 : Int32) (σ : Sg) : Int32 :=
  o_ite ((f_X6_isCell p1 p2 σ) = 0) (
    (-1)) (
    ((σ 35 ((38 + (8 * p1)) + p2).toNatClampNeg) + 100))
def ok_X6_correction (p1 : Int32) (p2 : Int32) (σ : Sg) : Prop :=
  (ok_X6_isCell p1 p2 σ) ∧ ((((f_X6_isCell p1 p2 σ) = 0) →
    True) ∧ (¬ ((f_X6_isCell p1 p2 σ) = 0) →
    (vp_in ((38 + (8 * p1)) + p2) 62) ∧ (True)))
set_option maxHeartbeats 4000000 in
set_option maxRecDepth 100000 in
theorem c_X6_correction (l : Launch) (G : Gt) {p1 : Int32} {p2 : Int32}  {σ : Sg} (hok : ok_X6_correction p1 p2 σ) : o_Ci l G yX6_correction cX6_correction 3 (some .int) 3 63 [.ref (gAd G 34), .int p1, .int p2] σ (fun r σ' => r = f_X6_correction p1 p2 σ ∧ σ' = σ) := by
  refine o_Ci.of (by decide +kernel) (Nat.le_of_ble_eq_true rfl) ?_
  intro p e s m args below meth c hc hr
  have hq : ∀ q : Int32, q = f_X6_correction p1 p2 σ → (fun r σ' => r = f_X6_correction p1 p2 σ ∧ σ' = σ) q σ := fun q h => ⟨h, rfl⟩
  refine r_iload_n (pc := 0) hc 1 dX6_correction_0 rfl rfl ?_
  refine r_iload_n (pc := 1) hc 2 dX6_correction_1 rfl rfl ?_
  obtain ⟨hs1, hok⟩ := hok
  refine r_callS_i (pc := 2) (as := [.int _, .int _]) hc (c_X6_isCell l G hs1) mS_X6_isCell kM_X6_68 ⟨Nat.le_of_ble_eq_true rfl, Nat.le_of_ble_eq_true rfl⟩ ⟨Nat.le_refl 0, Nat.le_refl 0⟩ rfl rfl (Nat.le_of_ble_eq_true rfl) dX6_correction_2 (fun r σ' h => ?_)
  obtain ⟨rfl, rfl⟩ := h
  refine r_if_eq (pc := 5) (tgt := 28) hc dX6_correction_5 (by decide) (fun c5 => ?_) (fun c5 => ?_)
  · have hok := hok.1 c5
    have hq := o_qp hq c5
    refine r_iconst (pc := 28) (v := (-1)) hc dX6_correction_28 rfl ?_
    exact r_iret hc hr rfl dX6_correction_29 (hq _ rfl)
  · have hok := hok.2 c5
    have hq := o_qn hq c5
    refine r_aload_n (pc := 8) hc 0 dX6_correction_8 rfl rfl ?_
    refine r_getr (pc := 9) (j := 35) hc 0 kk6 (by decide) rfl (by decide) kF_X6_7 rfl rfl dX6_correction_9 ?_
    refine r_bipush (pc := 12) (v := 38) hc dX6_correction_12 (by decide) ?_
    refine r_bipush (pc := 14) (v := 8) hc dX6_correction_14 (by decide) ?_
    refine r_iload_n (pc := 16) hc 1 dX6_correction_16 rfl rfl ?_
    refine r_imul (pc := 17) hc dX6_correction_17 ?_
    refine r_iadd (pc := 18) hc dX6_correction_18 ?_
    refine r_iload_n (pc := 19) hc 2 dX6_correction_19 rfl rfl ?_
    refine r_iadd (pc := 20) hc dX6_correction_20 ?_
    obtain ⟨hs2, hok⟩ := hok
    refine r_iald (pc := 21) (k := _) hc (by decide) rfl hs2 rfl dX6_correction_21 ?_
    refine r_bipush (pc := 22) (v := 100) hc dX6_correction_22 (by decide) ?_
    refine r_iadd (pc := 24) hc dX6_correction_24 ?_
    refine r_goto (pc := 25) (tgt := 29) hc dX6_correction_25 (by decide) ?_
    exact r_iret hc hr rfl dX6_correction_29 (hq _ rfl)
noncomputable def f_X6_corrections_5  : Nat → Int32 → Int32 → Sg → Int32
  | 0 => fun _ _ σ => 0
  | n + 1 => fun x1 x2 σ =>
    o_ite (62 ≤ x2) (
      x1) (
      o_ite ((σ 35 x2.toNatClampNeg) = 0) (
        f_X6_corrections_5 n (x1 + 0) (x2 + 1) σ) (
        f_X6_corrections_5 n (x1 + 1) (x2 + 1) σ))
def ok_X6_corrections_5  : Nat → Int32 → Int32 → Sg → Prop
  | 0 => fun _ _ _ => False
  | n + 1 => fun x1 x2 σ =>
    ((62 ≤ x2) →
      True) ∧ (¬ (62 ≤ x2) →
      (vp_in x2 62) ∧ ((((σ 35 x2.toNatClampNeg) = 0) →
        ok_X6_corrections_5  n (x1 + 0) (x2 + 1) σ) ∧ (¬ ((σ 35 x2.toNatClampNeg) = 0) →
        ok_X6_corrections_5  n (x1 + 1) (x2 + 1) σ)))
noncomputable def f_X6_corrections  (σ : Sg) : Int32 :=
  f_X6_corrections_5  oF 0 38 σ
def ok_X6_corrections  (σ : Sg) : Prop :=
  ok_X6_corrections_5  oF 0 38 σ
set_option maxHeartbeats 4000000 in
set_option maxRecDepth 100000 in
theorem t_X6_corrections_5 {p : Program} {l : Launch} {e : Env} {s : State} {m : MethodId} {args : Array Value} {below : List Frame} {meth : Method} {c : Code} {G : Gt} {post : Int32 → Sg → Prop}   (hc : o_Cx p s m args meth c G cX6_corrections yX6_corrections.cls 3) (hr : meth.sig.returnType = (some .int)) : ∀ (n : Nat) (x1 : Int32) (x2 : Int32) (σ : Sg) (hok : ok_X6_corrections_5  n x1 x2 σ) (hq : ∀ q : Int32, q = f_X6_corrections_5  n x1 x2 σ → post q σ), o_V p l e { frames := 0, cells := 0, slots := 0, locals := 0 } s m args below meth c (MQ below (va_Qi post (fun σ' t => o_W G σ' t.heap) (o_A G)) args s 0 0 (o_A G)) G 0 0 3 σ 5 [(0, .ref (gAd G 34)), (1, .int x1), (2, .int x2)] [] := by
  intro n
  induction n with
  | zero =>
    intro x1 x2 σ hok hq
    exact hok.elim
  | succ n ih =>
    intro x1 x2 σ hok hq
    refine r_iload_n (pc := 5) hc 2 dX6_corrections_5 rfl rfl ?_
    refine r_bipush (pc := 6) (v := 62) hc dX6_corrections_6 (by decide) ?_
    refine r_icmp_ge (pc := 8) (tgt := 34) hc dX6_corrections_8 (by decide) (fun c8 => ?_) (fun c8 => ?_)
    · have hok := hok.1 c8
      have hq := o_qp hq c8
      refine r_iload_n (pc := 34) hc 1 dX6_corrections_34 rfl rfl ?_
      exact r_iret hc hr rfl dX6_corrections_35 (hq _ rfl)
    · have hok := hok.2 c8
      have hq := o_qn hq c8
      refine r_iload_n (pc := 11) hc 1 dX6_corrections_11 rfl rfl ?_
      refine r_aload_n (pc := 12) hc 0 dX6_corrections_12 rfl rfl ?_
      refine r_getr (pc := 13) (j := 35) hc 0 kk6 (by decide) rfl (by decide) kF_X6_7 rfl rfl dX6_corrections_13 ?_
      refine r_iload_n (pc := 16) hc 2 dX6_corrections_16 rfl rfl ?_
      obtain ⟨hs1, hok⟩ := hok
      refine r_iald (pc := 17) (k := _) hc (by decide) rfl hs1 rfl dX6_corrections_17 ?_
      refine r_if_ne (pc := 18) (tgt := 25) hc dX6_corrections_18 (by decide) (fun c18 => ?_) (fun c18 => ?_)
      · have hok := hok.2 c18
        have hq := o_qn hq c18
        refine r_iconst (pc := 25) (v := 1) hc dX6_corrections_25 rfl ?_
        refine r_iadd (pc := 26) hc dX6_corrections_26 ?_
        refine r_istore_n (pc := 27) (lv' := [(1, _), (0, _), (2, _)]) hc dX6_corrections_27 rfl (by decide) rfl ?_
        refine r_iinc (pc := 28) (q := 2) (v := _ + 1) (lv' := [(2, _), (1, _), (0, _)]) hc dX6_corrections_28 rfl rfl (by decide) rfl ?_
        refine r_goto (pc := 31) (tgt := 5) hc dX6_corrections_31 (by decide) ?_
        exact o_V.sub (ih _ _ _ hok hq) [2, 1, 0] rfl
      · have hok := hok.1 c18
        have hq := o_qp hq c18
        refine r_iconst (pc := 21) (v := 0) hc dX6_corrections_21 rfl ?_
        refine r_goto (pc := 22) (tgt := 26) hc dX6_corrections_22 (by decide) ?_
        refine r_iadd (pc := 26) hc dX6_corrections_26 ?_
        refine r_istore_n (pc := 27) (lv' := [(1, _), (0, _), (2, _)]) hc dX6_corrections_27 rfl (by decide) rfl ?_
        refine r_iinc (pc := 28) (q := 2) (v := _ + 1) (lv' := [(2, _), (1, _), (0, _)]) hc dX6_corrections_28 rfl rfl (by decide) rfl ?_
        refine r_goto (pc := 31) (tgt := 5) hc dX6_corrections_31 (by decide) ?_
        exact o_V.sub (ih _ _ _ hok hq) [2, 1, 0] rfl
set_option maxHeartbeats 4000000 in
set_option maxRecDepth 100000 in
theorem c_X6_corrections (l : Launch) (G : Gt)   {σ : Sg} (hok : ok_X6_corrections  σ) : o_Ci l G yX6_corrections cX6_corrections 3 (some .int) 0 0 [.ref (gAd G 34)] σ (fun r σ' => r = f_X6_corrections  σ ∧ σ' = σ) := by
  refine o_Ci.of (by decide +kernel) (Nat.le_of_ble_eq_true rfl) ?_
  intro p e s m args below meth c hc hr
  have hq : ∀ q : Int32, q = f_X6_corrections  σ → (fun r σ' => r = f_X6_corrections  σ ∧ σ' = σ) q σ := fun q h => ⟨h, rfl⟩
  refine r_iconst (pc := 0) (v := 0) hc dX6_corrections_0 rfl ?_
  refine r_istore_n (pc := 1) (lv' := [(1, _), (0, _)]) hc dX6_corrections_1 rfl (by decide) rfl ?_
  refine r_bipush (pc := 2) (v := 38) hc dX6_corrections_2 (by decide) ?_
  refine r_istore_n (pc := 4) (lv' := [(2, _), (1, _), (0, _)]) hc dX6_corrections_4 rfl (by decide) rfl ?_
  exact o_V.sub (t_X6_corrections_5  hc hr oF _ _ _ hok hq) [2, 1, 0] rfl
noncomputable def f_X6_count (p1 : Int32) (σ : Sg) : Int32 :=
  o_ite (p1 = 0) (
    (σ 35 0)) (
    o_ite (p1 = 1) (
      (f_X6_angle σ)) (
      o_ite (p1 = 2) (
        (σ 35 2)) (
        o_ite (p1 = 3) (
          (σ 35 1)) (
          o_ite (p1 = 4) (
            (σ 35 3)) (
            o_ite (p1 = 5) (
              (σ 35 4)) (
              o_ite (p1 = 6) (
                o_ite ((σ 35 5) = (-1)) (
                  (-4)) (
                  (σ 35 5))) (
                o_ite (p1 = 7) (
                  (σ 35 6)) (
                  o_ite (p1 = 8) (
                    (f_X6_coarse σ)) (
                    o_ite (p1 = 9) (
                      (f_X6_corrections σ)) (
                      o_ite (p1 = 10) (
                        (σ 34 2)) (
                        o_ite (p1 = 11) (
                          (σ 34 4)) (
                          o_ite (p1 = 12) (
                            (-1)) (
                            o_ite (p1 = 13) (
                              (-1)) (
                              o_ite (p1 = 14) (
                                (-1)) (
                                o_ite (p1 = 15) (
                                  (-1)) (
                                  o_ite (p1 = 16) (
                                    (-1)) (
                                    o_ite (p1 = 17) (
                                      (-1)) (
                                      o_ite (p1 = 18) (
                                        (-1)) (
                                        o_ite (p1 = 19) (
                                          (-1)) (
                                          o_ite (p1 = 20) (
                                            (σ 35 ((7 + p1) - 20).toNatClampNeg)) (
                                            o_ite (p1 = 21) (
                                              (σ 35 ((7 + p1) - 20).toNatClampNeg)) (
                                              o_ite (p1 = 22) (
                                                (σ 35 ((7 + p1) - 20).toNatClampNeg)) (
                                                o_ite (p1 = 23) (
                                                  ((σ 35 10) + 100)) (
                                                  (-1)))))))))))))))))))))))))
def ok_X6_count (p1 : Int32) (σ : Sg) : Prop :=
  ((p1 = 0) →
    True) ∧ (¬ (p1 = 0) →
    ((p1 = 1) →
      (ok_X6_angle σ) ∧ (True)) ∧ (¬ (p1 = 1) →
      ((p1 = 2) →
        True) ∧ (¬ (p1 = 2) →
        ((p1 = 3) →
          True) ∧ (¬ (p1 = 3) →
          ((p1 = 4) →
            True) ∧ (¬ (p1 = 4) →
            ((p1 = 5) →
              True) ∧ (¬ (p1 = 5) →
              ((p1 = 6) →
                (((σ 35 5) = (-1)) →
                  True) ∧ (¬ ((σ 35 5) = (-1)) →
                  True)) ∧ (¬ (p1 = 6) →
                ((p1 = 7) →
                  True) ∧ (¬ (p1 = 7) →
                  ((p1 = 8) →
                    (ok_X6_coarse σ) ∧ (True)) ∧ (¬ (p1 = 8) →
                    ((p1 = 9) →
                      (ok_X6_corrections σ) ∧ (True)) ∧ (¬ (p1 = 9) →
                      ((p1 = 10) →
                        True) ∧ (¬ (p1 = 10) →
                        ((p1 = 11) →
                          True) ∧ (¬ (p1 = 11) →
                          ((p1 = 12) →
                            True) ∧ (¬ (p1 = 12) →
                            ((p1 = 13) →
                              True) ∧ (¬ (p1 = 13) →
                              ((p1 = 14) →
                                True) ∧ (¬ (p1 = 14) →
                                ((p1 = 15) →
                                  True) ∧ (¬ (p1 = 15) →
                                  ((p1 = 16) →
                                    True) ∧ (¬ (p1 = 16) →
                                    ((p1 = 17) →
                                      True) ∧ (¬ (p1 = 17) →
                                      ((p1 = 18) →
                                        True) ∧ (¬ (p1 = 18) →
                                        ((p1 = 19) →
                                          True) ∧ (¬ (p1 = 19) →
                                          ((p1 = 20) →
                                            (vp_in ((7 + p1) - 20) 62) ∧ (True)) ∧ (¬ (p1 = 20) →
                                            ((p1 = 21) →
                                              (vp_in ((7 + p1) - 20) 62) ∧ (True)) ∧ (¬ (p1 = 21) →
                                              ((p1 = 22) →
                                                (vp_in ((7 + p1) - 20) 62) ∧ (True)) ∧ (¬ (p1 = 22) →
                                                ((p1 = 23) →
                                                  True) ∧ (¬ (p1 = 23) →
                                                  True))))))))))))))))))))))))
set_option maxHeartbeats 4000000 in
set_option maxRecDepth 100000 in
theorem c_X6_count (l : Launch) (G : Gt) {p1 : Int32}  {σ : Sg} (hok : ok_X6_count p1 σ) : o_Ci l G yX6_count cX6_count 2 (some .int) 2 42 [.ref (gAd G 34), .int p1] σ (fun r σ' => r = f_X6_count p1 σ ∧ σ' = σ) := by
  refine o_Ci.of (by decide +kernel) (Nat.le_of_ble_eq_true rfl) ?_
  intro p e s m args below meth c hc hr
  have hq : ∀ q : Int32, q = f_X6_count p1 σ → (fun r σ' => r = f_X6_count p1 σ ∧ σ' = σ) q σ := fun q h => ⟨h, rfl⟩
  refine r_iload_n (pc := 0) hc 1 dX6_count_0 rfl rfl ?_
  refine o_cs (p1 = 0) (fun s1_0 => ?_) (fun s1_0 => ?_)
  · have hok := hok.1 s1_0
    have hq := o_qp hq s1_0
    refine r_tabIn (pc := 1) (tgt := 112) (k := 0) (off := 111) hc dX6_count_1 s1_0 (by decide) (by decide) (by decide) (by decide) ?_
    refine r_aload_n (pc := 112) hc 0 dX6_count_112 rfl rfl ?_
    refine r_getr (pc := 113) (j := 35) hc 0 kk6 (by decide) rfl (by decide) kF_X6_7 rfl rfl dX6_count_113 ?_
    refine r_iconst (pc := 116) (v := 0) hc dX6_count_116 rfl ?_
    refine r_iald (pc := 117) (k := 0) hc (by decide) rfl (by unfold vp_in; decide) (by decide) dX6_count_117 ?_
    exact r_iret hc hr rfl dX6_count_118 (hq _ rfl)
  have hok := hok.2 s1_0
  have hq := o_qn hq s1_0
  refine o_cs (p1 = 1) (fun s1_1 => ?_) (fun s1_1 => ?_)
  · have hok := hok.1 s1_1
    have hq := o_qp hq s1_1
    refine r_tabIn (pc := 1) (tgt := 119) (k := 1) (off := 118) hc dX6_count_1 s1_1 (by decide) (by decide) (by decide) (by decide) ?_
    refine r_aload_n (pc := 119) hc 0 dX6_count_119 rfl rfl ?_
    obtain ⟨hs1, hok⟩ := hok
    refine r_callV_i (pc := 120) (as := []) hc (c_X6_angle l G hs1) kk6 (by decide) rfl mV_X6_angle kM_X6_55 ⟨Nat.le_of_ble_eq_true rfl, Nat.le_of_ble_eq_true rfl⟩ ⟨Nat.le_refl 0, Nat.le_refl 0⟩ rfl rfl (Nat.le_of_ble_eq_true rfl) dX6_count_120 (fun r σ' h => ?_)
    obtain ⟨rfl, rfl⟩ := h
    exact r_iret hc hr rfl dX6_count_123 (hq _ rfl)
  have hok := hok.2 s1_1
  have hq := o_qn hq s1_1
  refine o_cs (p1 = 2) (fun s1_2 => ?_) (fun s1_2 => ?_)
  · have hok := hok.1 s1_2
    have hq := o_qp hq s1_2
    refine r_tabIn (pc := 1) (tgt := 124) (k := 2) (off := 123) hc dX6_count_1 s1_2 (by decide) (by decide) (by decide) (by decide) ?_
    refine r_aload_n (pc := 124) hc 0 dX6_count_124 rfl rfl ?_
    refine r_getr (pc := 125) (j := 35) hc 0 kk6 (by decide) rfl (by decide) kF_X6_7 rfl rfl dX6_count_125 ?_
    refine r_iconst (pc := 128) (v := 2) hc dX6_count_128 rfl ?_
    refine r_iald (pc := 129) (k := 2) hc (by decide) rfl (by unfold vp_in; decide) (by decide) dX6_count_129 ?_
    exact r_iret hc hr rfl dX6_count_130 (hq _ rfl)
  have hok := hok.2 s1_2
  have hq := o_qn hq s1_2
  refine o_cs (p1 = 3) (fun s1_3 => ?_) (fun s1_3 => ?_)
  · have hok := hok.1 s1_3
    have hq := o_qp hq s1_3
    refine r_tabIn (pc := 1) (tgt := 131) (k := 3) (off := 130) hc dX6_count_1 s1_3 (by decide) (by decide) (by decide) (by decide) ?_
    refine r_aload_n (pc := 131) hc 0 dX6_count_131 rfl rfl ?_
    refine r_getr (pc := 132) (j := 35) hc 0 kk6 (by decide) rfl (by decide) kF_X6_7 rfl rfl dX6_count_132 ?_
    refine r_iconst (pc := 135) (v := 1) hc dX6_count_135 rfl ?_
    refine r_iald (pc := 136) (k := 1) hc (by decide) rfl (by unfold vp_in; decide) (by decide) dX6_count_136 ?_
    exact r_iret hc hr rfl dX6_count_137 (hq _ rfl)
  have hok := hok.2 s1_3
  have hq := o_qn hq s1_3
  refine o_cs (p1 = 4) (fun s1_4 => ?_) (fun s1_4 => ?_)
  · have hok := hok.1 s1_4
    have hq := o_qp hq s1_4
    refine r_tabIn (pc := 1) (tgt := 138) (k := 4) (off := 137) hc dX6_count_1 s1_4 (by decide) (by decide) (by decide) (by decide) ?_
    refine r_aload_n (pc := 138) hc 0 dX6_count_138 rfl rfl ?_
    refine r_getr (pc := 139) (j := 35) hc 0 kk6 (by decide) rfl (by decide) kF_X6_7 rfl rfl dX6_count_139 ?_
    refine r_iconst (pc := 142) (v := 3) hc dX6_count_142 rfl ?_
    refine r_iald (pc := 143) (k := 3) hc (by decide) rfl (by unfold vp_in; decide) (by decide) dX6_count_143 ?_
    exact r_iret hc hr rfl dX6_count_144 (hq _ rfl)
  have hok := hok.2 s1_4
  have hq := o_qn hq s1_4
  refine o_cs (p1 = 5) (fun s1_5 => ?_) (fun s1_5 => ?_)
  · have hok := hok.1 s1_5
    have hq := o_qp hq s1_5
    refine r_tabIn (pc := 1) (tgt := 145) (k := 5) (off := 144) hc dX6_count_1 s1_5 (by decide) (by decide) (by decide) (by decide) ?_
    refine r_aload_n (pc := 145) hc 0 dX6_count_145 rfl rfl ?_
    refine r_getr (pc := 146) (j := 35) hc 0 kk6 (by decide) rfl (by decide) kF_X6_7 rfl rfl dX6_count_146 ?_
    refine r_iconst (pc := 149) (v := 4) hc dX6_count_149 rfl ?_
    refine r_iald (pc := 150) (k := 4) hc (by decide) rfl (by unfold vp_in; decide) (by decide) dX6_count_150 ?_
    exact r_iret hc hr rfl dX6_count_151 (hq _ rfl)
  have hok := hok.2 s1_5
  have hq := o_qn hq s1_5
  refine o_cs (p1 = 6) (fun s1_6 => ?_) (fun s1_6 => ?_)
  · have hok := hok.1 s1_6
    have hq := o_qp hq s1_6
    refine r_tabIn (pc := 1) (tgt := 152) (k := 6) (off := 151) hc dX6_count_1 s1_6 (by decide) (by decide) (by decide) (by decide) ?_
    refine r_aload_n (pc := 152) hc 0 dX6_count_152 rfl rfl ?_
    refine r_getr (pc := 153) (j := 35) hc 0 kk6 (by decide) rfl (by decide) kF_X6_7 rfl rfl dX6_count_153 ?_
    refine r_iconst (pc := 156) (v := 5) hc dX6_count_156 rfl ?_
    refine r_iald (pc := 157) (k := 5) hc (by decide) rfl (by unfold vp_in; decide) (by decide) dX6_count_157 ?_
    refine r_iconst (pc := 158) (v := (-1)) hc dX6_count_158 rfl ?_
    refine r_icmp_ne (pc := 159) (tgt := 167) hc dX6_count_159 (by decide) (fun c159 => ?_) (fun c159 => ?_)
    · have hok := hok.2 c159
      have hq := o_qn hq c159
      refine r_aload_n (pc := 167) hc 0 dX6_count_167 rfl rfl ?_
      refine r_getr (pc := 168) (j := 35) hc 0 kk6 (by decide) rfl (by decide) kF_X6_7 rfl rfl dX6_count_168 ?_
      refine r_iconst (pc := 171) (v := 5) hc dX6_count_171 rfl ?_
      refine r_iald (pc := 172) (k := 5) hc (by decide) rfl (by unfold vp_in; decide) (by decide) dX6_count_172 ?_
      exact r_iret hc hr rfl dX6_count_173 (hq _ rfl)
    · have hok := hok.1 c159
      have hq := o_qp hq c159
      refine r_bipush (pc := 162) (v := (-4)) hc dX6_count_162 (by decide) ?_
      refine r_goto (pc := 164) (tgt := 173) hc dX6_count_164 (by decide) ?_
      exact r_iret hc hr rfl dX6_count_173 (hq _ rfl)
  have hok := hok.2 s1_6
  have hq := o_qn hq s1_6
  refine o_cs (p1 = 7) (fun s1_7 => ?_) (fun s1_7 => ?_)
  · have hok := hok.1 s1_7
    have hq := o_qp hq s1_7
    refine r_tabIn (pc := 1) (tgt := 174) (k := 7) (off := 173) hc dX6_count_1 s1_7 (by decide) (by decide) (by decide) (by decide) ?_
    refine r_aload_n (pc := 174) hc 0 dX6_count_174 rfl rfl ?_
    refine r_getr (pc := 175) (j := 35) hc 0 kk6 (by decide) rfl (by decide) kF_X6_7 rfl rfl dX6_count_175 ?_
    refine r_bipush (pc := 178) (v := 6) hc dX6_count_178 (by decide) ?_
    refine r_iald (pc := 180) (k := 6) hc (by decide) rfl (by unfold vp_in; decide) (by decide) dX6_count_180 ?_
    exact r_iret hc hr rfl dX6_count_181 (hq _ rfl)
  have hok := hok.2 s1_7
  have hq := o_qn hq s1_7
  refine o_cs (p1 = 8) (fun s1_8 => ?_) (fun s1_8 => ?_)
  · have hok := hok.1 s1_8
    have hq := o_qp hq s1_8
    refine r_tabIn (pc := 1) (tgt := 182) (k := 8) (off := 181) hc dX6_count_1 s1_8 (by decide) (by decide) (by decide) (by decide) ?_
    refine r_aload_n (pc := 182) hc 0 dX6_count_182 rfl rfl ?_
    obtain ⟨hs2, hok⟩ := hok
    refine r_callV_i (pc := 183) (as := []) hc (c_X6_coarse l G hs2) kk6 (by decide) rfl mV_X6_coarse kM_X6_59 ⟨Nat.le_of_ble_eq_true rfl, Nat.le_of_ble_eq_true rfl⟩ ⟨Nat.le_refl 0, Nat.le_refl 0⟩ rfl rfl (Nat.le_of_ble_eq_true rfl) dX6_count_183 (fun r σ' h => ?_)
    obtain ⟨rfl, rfl⟩ := h
    exact r_iret hc hr rfl dX6_count_186 (hq _ rfl)
  have hok := hok.2 s1_8
  have hq := o_qn hq s1_8
  refine o_cs (p1 = 9) (fun s1_9 => ?_) (fun s1_9 => ?_)
  · have hok := hok.1 s1_9
    have hq := o_qp hq s1_9
    refine r_tabIn (pc := 1) (tgt := 187) (k := 9) (off := 186) hc dX6_count_1 s1_9 (by decide) (by decide) (by decide) (by decide) ?_
    refine r_aload_n (pc := 187) hc 0 dX6_count_187 rfl rfl ?_
    obtain ⟨hs3, hok⟩ := hok
    refine r_callV_i (pc := 188) (as := []) hc (c_X6_corrections l G hs3) kk6 (by decide) rfl mV_X6_corrections kM_X6_62 ⟨Nat.le_of_ble_eq_true rfl, Nat.le_of_ble_eq_true rfl⟩ ⟨Nat.le_refl 0, Nat.le_refl 0⟩ rfl rfl (Nat.le_of_ble_eq_true rfl) dX6_count_188 (fun r σ' h => ?_)
    obtain ⟨rfl, rfl⟩ := h
    exact r_iret hc hr rfl dX6_count_191 (hq _ rfl)
  have hok := hok.2 s1_9
  have hq := o_qn hq s1_9
  refine o_cs (p1 = 10) (fun s1_10 => ?_) (fun s1_10 => ?_)
  · have hok := hok.1 s1_10
    have hq := o_qp hq s1_10
    refine r_tabIn (pc := 1) (tgt := 192) (k := 10) (off := 191) hc dX6_count_1 s1_10 (by decide) (by decide) (by decide) (by decide) ?_
    refine r_aload_n (pc := 192) hc 0 dX6_count_192 rfl rfl ?_
    refine r_geti (pc := 193) hc 2 kk6 (by decide) rfl (by decide) kF_X6_40 rfl rfl dX6_count_193 ?_
    exact r_iret hc hr rfl dX6_count_196 (hq _ rfl)
  have hok := hok.2 s1_10
  have hq := o_qn hq s1_10
  refine o_cs (p1 = 11) (fun s1_11 => ?_) (fun s1_11 => ?_)
  · have hok := hok.1 s1_11
    have hq := o_qp hq s1_11
    refine r_tabIn (pc := 1) (tgt := 197) (k := 11) (off := 196) hc dX6_count_1 s1_11 (by decide) (by decide) (by decide) (by decide) ?_
    refine r_aload_n (pc := 197) hc 0 dX6_count_197 rfl rfl ?_
    refine r_geti (pc := 198) hc 4 kk6 (by decide) rfl (by decide) kF_X6_65 rfl rfl dX6_count_198 ?_
    exact r_iret hc hr rfl dX6_count_201 (hq _ rfl)
  have hok := hok.2 s1_11
  have hq := o_qn hq s1_11
  refine o_cs (p1 = 12) (fun s1_12 => ?_) (fun s1_12 => ?_)
  · have hok := hok.1 s1_12
    have hq := o_qp hq s1_12
    refine r_tabIn (pc := 1) (tgt := 226) (k := 12) (off := 225) hc dX6_count_1 s1_12 (by decide) (by decide) (by decide) (by decide) ?_
    refine r_iconst (pc := 226) (v := (-1)) hc dX6_count_226 rfl ?_
    exact r_iret hc hr rfl dX6_count_227 (hq _ rfl)
  have hok := hok.2 s1_12
  have hq := o_qn hq s1_12
  refine o_cs (p1 = 13) (fun s1_13 => ?_) (fun s1_13 => ?_)
  · have hok := hok.1 s1_13
    have hq := o_qp hq s1_13
    refine r_tabIn (pc := 1) (tgt := 226) (k := 13) (off := 225) hc dX6_count_1 s1_13 (by decide) (by decide) (by decide) (by decide) ?_
    refine r_iconst (pc := 226) (v := (-1)) hc dX6_count_226 rfl ?_
    exact r_iret hc hr rfl dX6_count_227 (hq _ rfl)
  have hok := hok.2 s1_13
  have hq := o_qn hq s1_13
  refine o_cs (p1 = 14) (fun s1_14 => ?_) (fun s1_14 => ?_)
  · have hok := hok.1 s1_14
    have hq := o_qp hq s1_14
    refine r_tabIn (pc := 1) (tgt := 226) (k := 14) (off := 225) hc dX6_count_1 s1_14 (by decide) (by decide) (by decide) (by decide) ?_
    refine r_iconst (pc := 226) (v := (-1)) hc dX6_count_226 rfl ?_
    exact r_iret hc hr rfl dX6_count_227 (hq _ rfl)
  have hok := hok.2 s1_14
  have hq := o_qn hq s1_14
  refine o_cs (p1 = 15) (fun s1_15 => ?_) (fun s1_15 => ?_)
  · have hok := hok.1 s1_15
    have hq := o_qp hq s1_15
    refine r_tabIn (pc := 1) (tgt := 226) (k := 15) (off := 225) hc dX6_count_1 s1_15 (by decide) (by decide) (by decide) (by decide) ?_
    refine r_iconst (pc := 226) (v := (-1)) hc dX6_count_226 rfl ?_
    exact r_iret hc hr rfl dX6_count_227 (hq _ rfl)
  have hok := hok.2 s1_15
  have hq := o_qn hq s1_15
  refine o_cs (p1 = 16) (fun s1_16 => ?_) (fun s1_16 => ?_)
  · have hok := hok.1 s1_16
    have hq := o_qp hq s1_16
    refine r_tabIn (pc := 1) (tgt := 226) (k := 16) (off := 225) hc dX6_count_1 s1_16 (by decide) (by decide) (by decide) (by decide) ?_
    refine r_iconst (pc := 226) (v := (-1)) hc dX6_count_226 rfl ?_
    exact r_iret hc hr rfl dX6_count_227 (hq _ rfl)
  have hok := hok.2 s1_16
  have hq := o_qn hq s1_16
  refine o_cs (p1 = 17) (fun s1_17 => ?_) (fun s1_17 => ?_)
  · have hok := hok.1 s1_17
    have hq := o_qp hq s1_17
    refine r_tabIn (pc := 1) (tgt := 226) (k := 17) (off := 225) hc dX6_count_1 s1_17 (by decide) (by decide) (by decide) (by decide) ?_
    refine r_iconst (pc := 226) (v := (-1)) hc dX6_count_226 rfl ?_
    exact r_iret hc hr rfl dX6_count_227 (hq _ rfl)
  have hok := hok.2 s1_17
  have hq := o_qn hq s1_17
  refine o_cs (p1 = 18) (fun s1_18 => ?_) (fun s1_18 => ?_)
  · have hok := hok.1 s1_18
    have hq := o_qp hq s1_18
    refine r_tabIn (pc := 1) (tgt := 226) (k := 18) (off := 225) hc dX6_count_1 s1_18 (by decide) (by decide) (by decide) (by decide) ?_
    refine r_iconst (pc := 226) (v := (-1)) hc dX6_count_226 rfl ?_
    exact r_iret hc hr rfl dX6_count_227 (hq _ rfl)
  have hok := hok.2 s1_18
  have hq := o_qn hq s1_18
  refine o_cs (p1 = 19) (fun s1_19 => ?_) (fun s1_19 => ?_)
  · have hok := hok.1 s1_19
    have hq := o_qp hq s1_19
    refine r_tabIn (pc := 1) (tgt := 226) (k := 19) (off := 225) hc dX6_count_1 s1_19 (by decide) (by decide) (by decide) (by decide) ?_
    refine r_iconst (pc := 226) (v := (-1)) hc dX6_count_226 rfl ?_
    exact r_iret hc hr rfl dX6_count_227 (hq _ rfl)
  have hok := hok.2 s1_19
  have hq := o_qn hq s1_19
  refine o_cs (p1 = 20) (fun s1_20 => ?_) (fun s1_20 => ?_)
  · have hok := hok.1 s1_20
    have hq := o_qp hq s1_20
    refine r_tabIn (pc := 1) (tgt := 202) (k := 20) (off := 201) hc dX6_count_1 s1_20 (by decide) (by decide) (by decide) (by decide) ?_
    refine r_aload_n (pc := 202) hc 0 dX6_count_202 rfl rfl ?_
    refine r_getr (pc := 203) (j := 35) hc 0 kk6 (by decide) rfl (by decide) kF_X6_7 rfl rfl dX6_count_203 ?_
    refine r_bipush (pc := 206) (v := 7) hc dX6_count_206 (by decide) ?_
    refine r_iload_n (pc := 208) hc 1 dX6_count_208 rfl rfl ?_
    refine r_iadd (pc := 209) hc dX6_count_209 ?_
    refine r_bipush (pc := 210) (v := 20) hc dX6_count_210 (by decide) ?_
    refine r_isub (pc := 212) hc dX6_count_212 ?_
    obtain ⟨hs4, hok⟩ := hok
    refine r_iald (pc := 213) (k := _) hc (by decide) rfl hs4 rfl dX6_count_213 ?_
    exact r_iret hc hr rfl dX6_count_214 (hq _ rfl)
  have hok := hok.2 s1_20
  have hq := o_qn hq s1_20
  refine o_cs (p1 = 21) (fun s1_21 => ?_) (fun s1_21 => ?_)
  · have hok := hok.1 s1_21
    have hq := o_qp hq s1_21
    refine r_tabIn (pc := 1) (tgt := 202) (k := 21) (off := 201) hc dX6_count_1 s1_21 (by decide) (by decide) (by decide) (by decide) ?_
    refine r_aload_n (pc := 202) hc 0 dX6_count_202 rfl rfl ?_
    refine r_getr (pc := 203) (j := 35) hc 0 kk6 (by decide) rfl (by decide) kF_X6_7 rfl rfl dX6_count_203 ?_
    refine r_bipush (pc := 206) (v := 7) hc dX6_count_206 (by decide) ?_
    refine r_iload_n (pc := 208) hc 1 dX6_count_208 rfl rfl ?_
    refine r_iadd (pc := 209) hc dX6_count_209 ?_
    refine r_bipush (pc := 210) (v := 20) hc dX6_count_210 (by decide) ?_
    refine r_isub (pc := 212) hc dX6_count_212 ?_
    obtain ⟨hs5, hok⟩ := hok
    refine r_iald (pc := 213) (k := _) hc (by decide) rfl hs5 rfl dX6_count_213 ?_
    exact r_iret hc hr rfl dX6_count_214 (hq _ rfl)
  have hok := hok.2 s1_21
  have hq := o_qn hq s1_21
  refine o_cs (p1 = 22) (fun s1_22 => ?_) (fun s1_22 => ?_)
  · have hok := hok.1 s1_22
    have hq := o_qp hq s1_22
    refine r_tabIn (pc := 1) (tgt := 202) (k := 22) (off := 201) hc dX6_count_1 s1_22 (by decide) (by decide) (by decide) (by decide) ?_
    refine r_aload_n (pc := 202) hc 0 dX6_count_202 rfl rfl ?_
    refine r_getr (pc := 203) (j := 35) hc 0 kk6 (by decide) rfl (by decide) kF_X6_7 rfl rfl dX6_count_203 ?_
    refine r_bipush (pc := 206) (v := 7) hc dX6_count_206 (by decide) ?_
    refine r_iload_n (pc := 208) hc 1 dX6_count_208 rfl rfl ?_
    refine r_iadd (pc := 209) hc dX6_count_209 ?_
    refine r_bipush (pc := 210) (v := 20) hc dX6_count_210 (by decide) ?_
    refine r_isub (pc := 212) hc dX6_count_212 ?_
    obtain ⟨hs6, hok⟩ := hok
    refine r_iald (pc := 213) (k := _) hc (by decide) rfl hs6 rfl dX6_count_213 ?_
    exact r_iret hc hr rfl dX6_count_214 (hq _ rfl)
  have hok := hok.2 s1_22
  have hq := o_qn hq s1_22
  refine o_cs (p1 = 23) (fun s1_23 => ?_) (fun s1_23 => ?_)
  · have hok := hok.1 s1_23
    have hq := o_qp hq s1_23
    refine r_tabIn (pc := 1) (tgt := 215) (k := 23) (off := 214) hc dX6_count_1 s1_23 (by decide) (by decide) (by decide) (by decide) ?_
    refine r_aload_n (pc := 215) hc 0 dX6_count_215 rfl rfl ?_
    refine r_getr (pc := 216) (j := 35) hc 0 kk6 (by decide) rfl (by decide) kF_X6_7 rfl rfl dX6_count_216 ?_
    refine r_bipush (pc := 219) (v := 10) hc dX6_count_219 (by decide) ?_
    refine r_iald (pc := 221) (k := 10) hc (by decide) rfl (by unfold vp_in; decide) (by decide) dX6_count_221 ?_
    refine r_bipush (pc := 222) (v := 100) hc dX6_count_222 (by decide) ?_
    refine r_iadd (pc := 224) hc dX6_count_224 ?_
    exact r_iret hc hr rfl dX6_count_225 (hq _ rfl)
  have hok := hok.2 s1_23
  have hq := o_qn hq s1_23
  have e1_0 := lv_neT s1_0 (show (0 : Int32).toInt = 0 by decide)
  have e1_1 := lv_neT s1_1 (show (1 : Int32).toInt = 1 by decide)
  have e1_2 := lv_neT s1_2 (show (2 : Int32).toInt = 2 by decide)
  have e1_3 := lv_neT s1_3 (show (3 : Int32).toInt = 3 by decide)
  have e1_4 := lv_neT s1_4 (show (4 : Int32).toInt = 4 by decide)
  have e1_5 := lv_neT s1_5 (show (5 : Int32).toInt = 5 by decide)
  have e1_6 := lv_neT s1_6 (show (6 : Int32).toInt = 6 by decide)
  have e1_7 := lv_neT s1_7 (show (7 : Int32).toInt = 7 by decide)
  have e1_8 := lv_neT s1_8 (show (8 : Int32).toInt = 8 by decide)
  have e1_9 := lv_neT s1_9 (show (9 : Int32).toInt = 9 by decide)
  have e1_10 := lv_neT s1_10 (show (10 : Int32).toInt = 10 by decide)
  have e1_11 := lv_neT s1_11 (show (11 : Int32).toInt = 11 by decide)
  have e1_12 := lv_neT s1_12 (show (12 : Int32).toInt = 12 by decide)
  have e1_13 := lv_neT s1_13 (show (13 : Int32).toInt = 13 by decide)
  have e1_14 := lv_neT s1_14 (show (14 : Int32).toInt = 14 by decide)
  have e1_15 := lv_neT s1_15 (show (15 : Int32).toInt = 15 by decide)
  have e1_16 := lv_neT s1_16 (show (16 : Int32).toInt = 16 by decide)
  have e1_17 := lv_neT s1_17 (show (17 : Int32).toInt = 17 by decide)
  have e1_18 := lv_neT s1_18 (show (18 : Int32).toInt = 18 by decide)
  have e1_19 := lv_neT s1_19 (show (19 : Int32).toInt = 19 by decide)
  have e1_20 := lv_neT s1_20 (show (20 : Int32).toInt = 20 by decide)
  have e1_21 := lv_neT s1_21 (show (21 : Int32).toInt = 21 by decide)
  have e1_22 := lv_neT s1_22 (show (22 : Int32).toInt = 22 by decide)
  have e1_23 := lv_neT s1_23 (show (23 : Int32).toInt = 23 by decide)
  refine r_tabOut (pc := 1) (tgt := 226) hc dX6_count_1 (by omega) (by decide) ?_
  refine r_iconst (pc := 226) (v := (-1)) hc dX6_count_226 rfl ?_
  exact r_iret hc hr rfl dX6_count_227 (hq _ rfl)
noncomputable def f_X6_crosses_110  (y0 : Int32) (y1 : Int32) (y2 : Int32) (σ : Sg) : Sg :=
  let σ3 := pu σ 35 y2.toNatClampNeg (f_X6_rest (y1 + y0) 64 σ)
  σ3
def ok_X6_crosses_110  (y0 : Int32) (y1 : Int32) (y2 : Int32) (σ : Sg) : Prop :=
  (ok_X6_rest (y1 + y0) 64 σ) ∧ ((vp_in y2 62) ∧ (let σ3 := pu σ 35 y2.toNatClampNeg (f_X6_rest (y1 + y0) 64 σ)
  True))
noncomputable def f_X6_crosses_90  (x1 : Int32) (x2 : Int32) (σ : Sg) : Sg :=
  o_ite (x2 = 0) (
    f_X6_crosses_110 0 (σ 35 2) 2 σ) (
    f_X6_crosses_110 x1 (σ 35 2) 2 σ)
def ok_X6_crosses_90  (x1 : Int32) (x2 : Int32) (σ : Sg) : Prop :=
  ((x2 = 0) →
    ok_X6_crosses_110 0 (σ 35 2) 2 σ) ∧ (¬ (x2 = 0) →
    ok_X6_crosses_110 x1 (σ 35 2) 2 σ)
noncomputable def f_X6_crosses_88  (x1 : Int32) (x2 : Int32) (y0 : Int32) (y1 : Int32) (y2 : Int32) (σ : Sg) : Sg :=
  let σ2 := pu σ 35 y2.toNatClampNeg (y1 - y0)
  f_X6_crosses_90 x1 x2 σ2
def ok_X6_crosses_88  (x1 : Int32) (x2 : Int32) (y0 : Int32) (y1 : Int32) (y2 : Int32) (σ : Sg) : Prop :=
  (vp_in y2 62) ∧ (let σ2 := pu σ 35 y2.toNatClampNeg (y1 - y0)
  ok_X6_crosses_90 x1 x2 σ2)
noncomputable def f_X6_crosses_65  (x1 : Int32) (x2 : Int32) (y0 : Int32) (y1 : Int32) (y2 : Int32) (σ : Sg) : Sg :=
  let σ2 := pu σ 35 y2.toNatClampNeg (y1 - y0)
  o_ite ((σ2 35 3) ≤ 0) (
    f_X6_crosses_88 x1 x2 0 (σ2 35 3) 3 σ2) (
    f_X6_crosses_88 x1 x2 1 (σ2 35 3) 3 σ2)
def ok_X6_crosses_65  (x1 : Int32) (x2 : Int32) (y0 : Int32) (y1 : Int32) (y2 : Int32) (σ : Sg) : Prop :=
  (vp_in y2 62) ∧ (let σ2 := pu σ 35 y2.toNatClampNeg (y1 - y0)
  (((σ2 35 3) ≤ 0) →
    ok_X6_crosses_88 x1 x2 0 (σ2 35 3) 3 σ2) ∧ (¬ ((σ2 35 3) ≤ 0) →
    ok_X6_crosses_88 x1 x2 1 (σ2 35 3) 3 σ2))
noncomputable def f_X6_crosses_64  (x1 : Int32) (x2 : Int32) (y0 : Int32) (y1 : Int32) (σ : Sg) : Sg :=
  f_X6_crosses_65 x1 x2 0 y0 y1 σ
def ok_X6_crosses_64  (x1 : Int32) (x2 : Int32) (y0 : Int32) (y1 : Int32) (σ : Sg) : Prop :=
  ok_X6_crosses_65 x1 x2 0 y0 y1 σ
noncomputable def f_X6_crosses_34  (x1 : Int32) (y0 : Int32) (σ : Sg) : Sg :=
  o_ite ((σ 35 3) ≤ 0) (
    f_X6_crosses_64 x1 y0 (σ 35 4) 4 σ) (
    o_ite ((σ 35 4) ≤ 0) (
      f_X6_crosses_64 x1 y0 (σ 35 4) 4 σ) (
      f_X6_crosses_65 x1 y0 1 (σ 35 4) 4 σ))
def ok_X6_crosses_34  (x1 : Int32) (y0 : Int32) (σ : Sg) : Prop :=
  (((σ 35 3) ≤ 0) →
    ok_X6_crosses_64 x1 y0 (σ 35 4) 4 σ) ∧ (¬ ((σ 35 3) ≤ 0) →
    (((σ 35 4) ≤ 0) →
      ok_X6_crosses_64 x1 y0 (σ 35 4) 4 σ) ∧ (¬ ((σ 35 4) ≤ 0) →
      ok_X6_crosses_65 x1 y0 1 (σ 35 4) 4 σ))
noncomputable def f_X6_crosses_33  (x1 : Int32) (σ : Sg) : Sg :=
  f_X6_crosses_34 x1 0 σ
def ok_X6_crosses_33  (x1 : Int32) (σ : Sg) : Prop :=
  ok_X6_crosses_34 x1 0 σ
noncomputable def f_X6_crosses (p1 : Int32) (σ : Sg) : Sg :=
  o_ite ((σ 35 1) = 0) (
    o_ite ((σ 35 3) ≤ 0) (
      f_X6_crosses_33 p1 σ) (
      o_ite ((σ 35 4) = 0) (
        f_X6_crosses_34 p1 1 σ) (
        f_X6_crosses_33 p1 σ))) (
    f_X6_crosses_90 p1 1 σ)
def ok_X6_crosses (p1 : Int32) (σ : Sg) : Prop :=
  (((σ 35 1) = 0) →
    (((σ 35 3) ≤ 0) →
      ok_X6_crosses_33 p1 σ) ∧ (¬ ((σ 35 3) ≤ 0) →
      (((σ 35 4) = 0) →
        ok_X6_crosses_34 p1 1 σ) ∧ (¬ ((σ 35 4) = 0) →
        ok_X6_crosses_33 p1 σ))) ∧ (¬ ((σ 35 1) = 0) →
    ok_X6_crosses_90 p1 1 σ)
set_option maxHeartbeats 4000000 in
set_option maxRecDepth 100000 in
theorem t_X6_crosses_110 {p : Program} {l : Launch} {e : Env} {s : State} {m : MethodId} {args : Array Value} {below : List Frame} {meth : Method} {c : Code} {G : Gt} {post : Sg → Prop}   (hc : o_Cx p s m args meth c G cX6_crosses yX6_crosses.cls 3) (hr : meth.sig.returnType = none) {y0 : Int32} {y1 : Int32} {y2 : Int32} {σ : Sg} (hok : ok_X6_crosses_110  y0 y1 y2 σ) (hq : ∀ q : Sg, q = f_X6_crosses_110  y0 y1 y2 σ → post q) : o_V p l e { frames := 1, cells := 0, slots := 0, locals := 22 } s m args below meth c (MQ below (va_Qv post (fun σ' t => o_W G σ' t.heap) (o_A G)) args s 0 0 (o_A G)) G 0 0 3 σ 110 [] [.int y0, .int y1, .int y2, .ref (gAd G 35)] := by
  refine r_iadd (pc := 110) hc dX6_crosses_110 ?_
  refine r_bipush (pc := 111) (v := 64) hc dX6_crosses_111 (by decide) ?_
  obtain ⟨hs1, hok⟩ := hok
  refine r_callS_i (pc := 113) (as := [.int _, .int _]) hc (c_X6_rest l G hs1) mS_X6_rest kM_X6_28 ⟨Nat.le_of_ble_eq_true rfl, Nat.le_of_ble_eq_true rfl⟩ ⟨Nat.le_refl 0, Nat.le_refl 0⟩ rfl rfl (Nat.le_of_ble_eq_true rfl) dX6_crosses_113 (fun r σ' h => ?_)
  obtain ⟨rfl, rfl⟩ := h
  obtain ⟨hs2, hok⟩ := hok
  refine r_iast (pc := 116) (k := _) hc (by decide) rfl hs2 rfl dX6_crosses_116 ?_
  exact r_vret hc hr dX6_crosses_117 (hq _ rfl)
set_option maxHeartbeats 4000000 in
set_option maxRecDepth 100000 in
theorem t_X6_crosses_90 {p : Program} {l : Launch} {e : Env} {s : State} {m : MethodId} {args : Array Value} {below : List Frame} {meth : Method} {c : Code} {G : Gt} {post : Sg → Prop}   (hc : o_Cx p s m args meth c G cX6_crosses yX6_crosses.cls 3) (hr : meth.sig.returnType = none) {x1 : Int32} {x2 : Int32} {σ : Sg} (hok : ok_X6_crosses_90  x1 x2 σ) (hq : ∀ q : Sg, q = f_X6_crosses_90  x1 x2 σ → post q) : o_V p l e { frames := 1, cells := 0, slots := 0, locals := 22 } s m args below meth c (MQ below (va_Qv post (fun σ' t => o_W G σ' t.heap) (o_A G)) args s 0 0 (o_A G)) G 0 0 3 σ 90 [(0, .ref (gAd G 34)), (1, .int x1), (2, .int x2)] [] := by
  refine r_aload_n (pc := 90) hc 0 dX6_crosses_90 rfl rfl ?_
  refine r_getr (pc := 91) (j := 35) hc 0 kk6 (by decide) rfl (by decide) kF_X6_7 rfl rfl dX6_crosses_91 ?_
  refine r_iconst (pc := 94) (v := 2) hc dX6_crosses_94 rfl ?_
  refine r_aload_n (pc := 95) hc 0 dX6_crosses_95 rfl rfl ?_
  refine r_getr (pc := 96) (j := 35) hc 0 kk6 (by decide) rfl (by decide) kF_X6_7 rfl rfl dX6_crosses_96 ?_
  refine r_iconst (pc := 99) (v := 2) hc dX6_crosses_99 rfl ?_
  refine r_iald (pc := 100) (k := 2) hc (by decide) rfl (by unfold vp_in; decide) (by decide) dX6_crosses_100 ?_
  refine r_iload_n (pc := 101) hc 2 dX6_crosses_101 rfl rfl ?_
  refine r_if_eq (pc := 102) (tgt := 109) hc dX6_crosses_102 (by decide) (fun c102 => ?_) (fun c102 => ?_)
  · have hok := hok.1 c102
    have hq := o_qp hq c102
    refine r_iconst (pc := 109) (v := 0) hc dX6_crosses_109 rfl ?_
    exact o_V.sub (t_X6_crosses_110  hc hr hok hq) [] rfl
  · have hok := hok.2 c102
    have hq := o_qn hq c102
    refine r_iload_n (pc := 105) hc 1 dX6_crosses_105 rfl rfl ?_
    refine r_goto (pc := 106) (tgt := 110) hc dX6_crosses_106 (by decide) ?_
    exact o_V.sub (t_X6_crosses_110  hc hr hok hq) [] rfl
set_option maxHeartbeats 4000000 in
set_option maxRecDepth 100000 in
theorem t_X6_crosses_88 {p : Program} {l : Launch} {e : Env} {s : State} {m : MethodId} {args : Array Value} {below : List Frame} {meth : Method} {c : Code} {G : Gt} {post : Sg → Prop}   (hc : o_Cx p s m args meth c G cX6_crosses yX6_crosses.cls 3) (hr : meth.sig.returnType = none) {x1 : Int32} {x2 : Int32} {y0 : Int32} {y1 : Int32} {y2 : Int32} {σ : Sg} (hok : ok_X6_crosses_88  x1 x2 y0 y1 y2 σ) (hq : ∀ q : Sg, q = f_X6_crosses_88  x1 x2 y0 y1 y2 σ → post q) : o_V p l e { frames := 1, cells := 0, slots := 0, locals := 22 } s m args below meth c (MQ below (va_Qv post (fun σ' t => o_W G σ' t.heap) (o_A G)) args s 0 0 (o_A G)) G 0 0 3 σ 88 [(0, .ref (gAd G 34)), (1, .int x1), (2, .int x2)] [.int y0, .int y1, .int y2, .ref (gAd G 35)] := by
  refine r_isub (pc := 88) hc dX6_crosses_88 ?_
  obtain ⟨hs1, hok⟩ := hok
  refine r_iast (pc := 89) (k := _) hc (by decide) rfl hs1 rfl dX6_crosses_89 ?_
  exact o_V.sub (t_X6_crosses_90  hc hr hok hq) [0, 1, 2] rfl
set_option maxHeartbeats 4000000 in
set_option maxRecDepth 100000 in
theorem t_X6_crosses_65 {p : Program} {l : Launch} {e : Env} {s : State} {m : MethodId} {args : Array Value} {below : List Frame} {meth : Method} {c : Code} {G : Gt} {post : Sg → Prop}   (hc : o_Cx p s m args meth c G cX6_crosses yX6_crosses.cls 3) (hr : meth.sig.returnType = none) {x1 : Int32} {x2 : Int32} {y0 : Int32} {y1 : Int32} {y2 : Int32} {σ : Sg} (hok : ok_X6_crosses_65  x1 x2 y0 y1 y2 σ) (hq : ∀ q : Sg, q = f_X6_crosses_65  x1 x2 y0 y1 y2 σ → post q) : o_V p l e { frames := 1, cells := 0, slots := 0, locals := 22 } s m args below meth c (MQ below (va_Qv post (fun σ' t => o_W G σ' t.heap) (o_A G)) args s 0 0 (o_A G)) G 0 0 3 σ 65 [(0, .ref (gAd G 34)), (1, .int x1), (2, .int x2)] [.int y0, .int y1, .int y2, .ref (gAd G 35)] := by
  refine r_isub (pc := 65) hc dX6_crosses_65 ?_
  obtain ⟨hs1, hok⟩ := hok
  refine r_iast (pc := 66) (k := _) hc (by decide) rfl hs1 rfl dX6_crosses_66 ?_
  refine r_aload_n (pc := 67) hc 0 dX6_crosses_67 rfl rfl ?_
  refine r_getr (pc := 68) (j := 35) hc 0 kk6 (by decide) rfl (by decide) kF_X6_7 rfl rfl dX6_crosses_68 ?_
  refine r_iconst (pc := 71) (v := 3) hc dX6_crosses_71 rfl ?_
  refine r_dup2 (pc := 72) hc dX6_crosses_72 rfl rfl ?_
  refine r_iald (pc := 73) (k := 3) hc (by decide) rfl (by unfold vp_in; decide) (by decide) dX6_crosses_73 ?_
  refine r_aload_n (pc := 74) hc 0 dX6_crosses_74 rfl rfl ?_
  refine r_getr (pc := 75) (j := 35) hc 0 kk6 (by decide) rfl (by decide) kF_X6_7 rfl rfl dX6_crosses_75 ?_
  refine r_iconst (pc := 78) (v := 3) hc dX6_crosses_78 rfl ?_
  refine r_iald (pc := 79) (k := 3) hc (by decide) rfl (by unfold vp_in; decide) (by decide) dX6_crosses_79 ?_
  refine r_if_le (pc := 80) (tgt := 87) hc dX6_crosses_80 (by decide) (fun c80 => ?_) (fun c80 => ?_)
  · have hok := hok.1 c80
    have hq := o_qp hq c80
    refine r_iconst (pc := 87) (v := 0) hc dX6_crosses_87 rfl ?_
    exact o_V.sub (t_X6_crosses_88  hc hr hok hq) [0, 1, 2] rfl
  · have hok := hok.2 c80
    have hq := o_qn hq c80
    refine r_iconst (pc := 83) (v := 1) hc dX6_crosses_83 rfl ?_
    refine r_goto (pc := 84) (tgt := 88) hc dX6_crosses_84 (by decide) ?_
    exact o_V.sub (t_X6_crosses_88  hc hr hok hq) [0, 1, 2] rfl
set_option maxHeartbeats 4000000 in
set_option maxRecDepth 100000 in
theorem t_X6_crosses_64 {p : Program} {l : Launch} {e : Env} {s : State} {m : MethodId} {args : Array Value} {below : List Frame} {meth : Method} {c : Code} {G : Gt} {post : Sg → Prop}   (hc : o_Cx p s m args meth c G cX6_crosses yX6_crosses.cls 3) (hr : meth.sig.returnType = none) {x1 : Int32} {x2 : Int32} {y0 : Int32} {y1 : Int32} {σ : Sg} (hok : ok_X6_crosses_64  x1 x2 y0 y1 σ) (hq : ∀ q : Sg, q = f_X6_crosses_64  x1 x2 y0 y1 σ → post q) : o_V p l e { frames := 1, cells := 0, slots := 0, locals := 22 } s m args below meth c (MQ below (va_Qv post (fun σ' t => o_W G σ' t.heap) (o_A G)) args s 0 0 (o_A G)) G 0 0 3 σ 64 [(0, .ref (gAd G 34)), (1, .int x1), (2, .int x2)] [.int y0, .int y1, .ref (gAd G 35)] := by
  refine r_iconst (pc := 64) (v := 0) hc dX6_crosses_64 rfl ?_
  exact o_V.sub (t_X6_crosses_65  hc hr hok hq) [0, 1, 2] rfl
set_option maxHeartbeats 4000000 in
set_option maxRecDepth 100000 in
theorem t_X6_crosses_34 {p : Program} {l : Launch} {e : Env} {s : State} {m : MethodId} {args : Array Value} {below : List Frame} {meth : Method} {c : Code} {G : Gt} {post : Sg → Prop}   (hc : o_Cx p s m args meth c G cX6_crosses yX6_crosses.cls 3) (hr : meth.sig.returnType = none) {x1 : Int32} {y0 : Int32} {σ : Sg} (hok : ok_X6_crosses_34  x1 y0 σ) (hq : ∀ q : Sg, q = f_X6_crosses_34  x1 y0 σ → post q) : o_V p l e { frames := 1, cells := 0, slots := 0, locals := 22 } s m args below meth c (MQ below (va_Qv post (fun σ' t => o_W G σ' t.heap) (o_A G)) args s 0 0 (o_A G)) G 0 0 3 σ 34 [(0, .ref (gAd G 34)), (1, .int x1)] [.int y0] := by
  refine r_istore_n (pc := 34) (lv' := [(2, _), (0, _), (1, _)]) hc dX6_crosses_34 rfl (by decide) rfl ?_
  refine r_aload_n (pc := 35) hc 1 dX6_crosses_35 rfl rfl ?_
  refine r_getr (pc := 36) (j := 35) hc 0 kk6 (by decide) rfl (by decide) kF_X6_7 rfl rfl dX6_crosses_36 ?_
  refine r_iconst (pc := 39) (v := 4) hc dX6_crosses_39 rfl ?_
  refine r_dup2 (pc := 40) hc dX6_crosses_40 rfl rfl ?_
  refine r_iald (pc := 41) (k := 4) hc (by decide) rfl (by unfold vp_in; decide) (by decide) dX6_crosses_41 ?_
  refine r_aload_n (pc := 42) hc 1 dX6_crosses_42 rfl rfl ?_
  refine r_getr (pc := 43) (j := 35) hc 0 kk6 (by decide) rfl (by decide) kF_X6_7 rfl rfl dX6_crosses_43 ?_
  refine r_iconst (pc := 46) (v := 3) hc dX6_crosses_46 rfl ?_
  refine r_iald (pc := 47) (k := 3) hc (by decide) rfl (by unfold vp_in; decide) (by decide) dX6_crosses_47 ?_
  refine r_if_le (pc := 48) (tgt := 64) hc dX6_crosses_48 (by decide) (fun c48 => ?_) (fun c48 => ?_)
  · have hok := hok.1 c48
    have hq := o_qp hq c48
    exact o_V.sub (t_X6_crosses_64  hc hr hok hq) [1, 2, 0] rfl
  · have hok := hok.2 c48
    have hq := o_qn hq c48
    refine r_aload_n (pc := 51) hc 1 dX6_crosses_51 rfl rfl ?_
    refine r_getr (pc := 52) (j := 35) hc 0 kk6 (by decide) rfl (by decide) kF_X6_7 rfl rfl dX6_crosses_52 ?_
    refine r_iconst (pc := 55) (v := 4) hc dX6_crosses_55 rfl ?_
    refine r_iald (pc := 56) (k := 4) hc (by decide) rfl (by unfold vp_in; decide) (by decide) dX6_crosses_56 ?_
    refine r_if_le (pc := 57) (tgt := 64) hc dX6_crosses_57 (by decide) (fun c57 => ?_) (fun c57 => ?_)
    · have hok := hok.1 c57
      have hq := o_qp hq c57
      exact o_V.sub (t_X6_crosses_64  hc hr hok hq) [1, 2, 0] rfl
    · have hok := hok.2 c57
      have hq := o_qn hq c57
      refine r_iconst (pc := 60) (v := 1) hc dX6_crosses_60 rfl ?_
      refine r_goto (pc := 61) (tgt := 65) hc dX6_crosses_61 (by decide) ?_
      exact o_V.sub (t_X6_crosses_65  hc hr hok hq) [1, 2, 0] rfl
set_option maxHeartbeats 4000000 in
set_option maxRecDepth 100000 in
theorem t_X6_crosses_33 {p : Program} {l : Launch} {e : Env} {s : State} {m : MethodId} {args : Array Value} {below : List Frame} {meth : Method} {c : Code} {G : Gt} {post : Sg → Prop}   (hc : o_Cx p s m args meth c G cX6_crosses yX6_crosses.cls 3) (hr : meth.sig.returnType = none) {x1 : Int32} {σ : Sg} (hok : ok_X6_crosses_33  x1 σ) (hq : ∀ q : Sg, q = f_X6_crosses_33  x1 σ → post q) : o_V p l e { frames := 1, cells := 0, slots := 0, locals := 22 } s m args below meth c (MQ below (va_Qv post (fun σ' t => o_W G σ' t.heap) (o_A G)) args s 0 0 (o_A G)) G 0 0 3 σ 33 [(0, .ref (gAd G 34)), (1, .int x1)] [] := by
  refine r_iconst (pc := 33) (v := 0) hc dX6_crosses_33 rfl ?_
  exact o_V.sub (t_X6_crosses_34  hc hr hok hq) [0, 1] rfl
set_option maxHeartbeats 4000000 in
set_option maxRecDepth 100000 in
theorem c_X6_crosses (l : Launch) (G : Gt) {p1 : Int32}  {σ : Sg} (hok : ok_X6_crosses p1 σ) : o_Cv l G yX6_crosses cX6_crosses 3 1 22 [.ref (gAd G 34), .int p1] σ (fun σ' => σ' = f_X6_crosses p1 σ) := by
  refine o_Cv.of (by decide +kernel) (Nat.le_of_ble_eq_true rfl) ?_
  intro p e s m args below meth c hc hr
  have hq : ∀ q : Sg, q = f_X6_crosses p1 σ → (fun σ' => σ' = f_X6_crosses p1 σ) q := fun q h => h
  refine r_iconst (pc := 0) (v := 1) hc dX6_crosses_0 rfl ?_
  refine r_istore_n (pc := 1) (lv' := [(2, _), (0, _), (1, _)]) hc dX6_crosses_1 rfl (by decide) rfl ?_
  refine r_aload_n (pc := 2) hc 1 dX6_crosses_2 rfl rfl ?_
  refine r_getr (pc := 3) (j := 35) hc 0 kk6 (by decide) rfl (by decide) kF_X6_7 rfl rfl dX6_crosses_3 ?_
  refine r_iconst (pc := 6) (v := 1) hc dX6_crosses_6 rfl ?_
  refine r_iald (pc := 7) (k := 1) hc (by decide) rfl (by unfold vp_in; decide) (by decide) dX6_crosses_7 ?_
  refine r_if_ne (pc := 8) (tgt := 90) hc dX6_crosses_8 (by decide) (fun c8 => ?_) (fun c8 => ?_)
  · have hok := hok.2 c8
    have hq := o_qn hq c8
    exact o_V.sub (t_X6_crosses_90  hc hr hok hq) [1, 2, 0] rfl
  · have hok := hok.1 c8
    have hq := o_qp hq c8
    refine r_aload_n (pc := 11) hc 1 dX6_crosses_11 rfl rfl ?_
    refine r_getr (pc := 12) (j := 35) hc 0 kk6 (by decide) rfl (by decide) kF_X6_7 rfl rfl dX6_crosses_12 ?_
    refine r_iconst (pc := 15) (v := 3) hc dX6_crosses_15 rfl ?_
    refine r_iald (pc := 16) (k := 3) hc (by decide) rfl (by unfold vp_in; decide) (by decide) dX6_crosses_16 ?_
    refine r_if_le (pc := 17) (tgt := 33) hc dX6_crosses_17 (by decide) (fun c17 => ?_) (fun c17 => ?_)
    · have hok := hok.1 c17
      have hq := o_qp hq c17
      exact o_V.sub (t_X6_crosses_33  hc hr hok hq) [1, 2] rfl
    · have hok := hok.2 c17
      have hq := o_qn hq c17
      refine r_aload_n (pc := 20) hc 1 dX6_crosses_20 rfl rfl ?_
      refine r_getr (pc := 21) (j := 35) hc 0 kk6 (by decide) rfl (by decide) kF_X6_7 rfl rfl dX6_crosses_21 ?_
      refine r_iconst (pc := 24) (v := 4) hc dX6_crosses_24 rfl ?_
      refine r_iald (pc := 25) (k := 4) hc (by decide) rfl (by unfold vp_in; decide) (by decide) dX6_crosses_25 ?_
      refine r_if_ne (pc := 26) (tgt := 33) hc dX6_crosses_26 (by decide) (fun c26 => ?_) (fun c26 => ?_)
      · have hok := hok.2 c26
        have hq := o_qn hq c26
        exact o_V.sub (t_X6_crosses_33  hc hr hok hq) [1, 2] rfl
      · have hok := hok.1 c26
        have hq := o_qp hq c26
        refine r_iconst (pc := 29) (v := 1) hc dX6_crosses_29 rfl ?_
        refine r_goto (pc := 30) (tgt := 34) hc dX6_crosses_30 (by decide) ?_
        exact o_V.sub (t_X6_crosses_34  hc hr hok hq) [1, 2] rfl
noncomputable def f_X6_disk (p1 : Int32) (p2 : Int32) (p3 : Int32) (σ : Sg) : Int32 × Sg :=
  o_ite ((f_X6_isCell p1 p2 σ) = 0) (
    ((-1), σ)) (
    o_ite ((f_X6_in p3 (-9) 9 σ) = 0) (
      ((-1), σ)) (
      let q4 := f_X6_puts ((11 + (8 * p1)) + p2) p3 σ
      ((q4.1 + 100), q4.2)))
def ok_X6_disk (p1 : Int32) (p2 : Int32) (p3 : Int32) (σ : Sg) : Prop :=
  (ok_X6_isCell p1 p2 σ) ∧ ((((f_X6_isCell p1 p2 σ) = 0) →
    True) ∧ (¬ ((f_X6_isCell p1 p2 σ) = 0) →
    (ok_X6_in p3 (-9) 9 σ) ∧ ((((f_X6_in p3 (-9) 9 σ) = 0) →
      True) ∧ (¬ ((f_X6_in p3 (-9) 9 σ) = 0) →
      (ok_X6_puts ((11 + (8 * p1)) + p2) p3 σ) ∧ (let q4 := f_X6_puts ((11 + (8 * p1)) + p2) p3 σ
      True)))))
set_option maxHeartbeats 4000000 in
set_option maxRecDepth 100000 in
theorem c_X6_disk (l : Launch) (G : Gt) {p1 : Int32} {p2 : Int32} {p3 : Int32}  {σ : Sg} (hok : ok_X6_disk p1 p2 p3 σ) : o_Ci l G yX6_disk cX6_disk 4 (some .int) 3 63 [.ref (gAd G 34), .int p1, .int p2, .int p3] σ (fun r σ' => r = (f_X6_disk p1 p2 p3 σ).1 ∧ σ' = (f_X6_disk p1 p2 p3 σ).2) := by
  refine o_Ci.of (by decide +kernel) (Nat.le_of_ble_eq_true rfl) ?_
  intro p e s m args below meth c hc hr
  have hq : ∀ q : Int32 × Sg, q = f_X6_disk p1 p2 p3 σ → (fun r σ' => r = (f_X6_disk p1 p2 p3 σ).1 ∧ σ' = (f_X6_disk p1 p2 p3 σ).2) q.1 q.2 := fun q h => ⟨congrArg Prod.fst h, congrArg Prod.snd h⟩
  refine r_iload_n (pc := 0) hc 1 dX6_disk_0 rfl rfl ?_
  refine r_iload_n (pc := 1) hc 2 dX6_disk_1 rfl rfl ?_
  obtain ⟨hs1, hok⟩ := hok
  refine r_callS_i (pc := 2) (as := [.int _, .int _]) hc (c_X6_isCell l G hs1) mS_X6_isCell kM_X6_68 ⟨Nat.le_of_ble_eq_true rfl, Nat.le_of_ble_eq_true rfl⟩ ⟨Nat.le_refl 0, Nat.le_refl 0⟩ rfl rfl (Nat.le_of_ble_eq_true rfl) dX6_disk_2 (fun r σ' h => ?_)
  obtain ⟨rfl, rfl⟩ := h
  refine r_if_eq (pc := 5) (tgt := 19) hc dX6_disk_5 (by decide) (fun c5 => ?_) (fun c5 => ?_)
  · have hok := hok.1 c5
    have hq := o_qp hq c5
    refine r_iconst (pc := 19) (v := (-1)) hc dX6_disk_19 rfl ?_
    exact r_iret hc hr rfl dX6_disk_20 (hq (_, _) rfl)
  · have hok := hok.2 c5
    have hq := o_qn hq c5
    refine r_iload_n (pc := 8) hc 3 dX6_disk_8 rfl rfl ?_
    refine r_bipush (pc := 9) (v := (-9)) hc dX6_disk_9 (by decide) ?_
    refine r_bipush (pc := 11) (v := 9) hc dX6_disk_11 (by decide) ?_
    obtain ⟨hs2, hok⟩ := hok
    refine r_callS_i (pc := 13) (as := [.int _, .int _, .int _]) hc (c_X6_in l G hs2) mS_X6_in kM_X6_32 ⟨Nat.le_of_ble_eq_true rfl, Nat.le_of_ble_eq_true rfl⟩ ⟨Nat.le_refl 0, Nat.le_refl 0⟩ rfl rfl (Nat.le_of_ble_eq_true rfl) dX6_disk_13 (fun r σ' h => ?_)
    obtain ⟨rfl, rfl⟩ := h
    refine r_if_ne (pc := 16) (tgt := 21) hc dX6_disk_16 (by decide) (fun c16 => ?_) (fun c16 => ?_)
    · have hok := hok.2 c16
      have hq := o_qn hq c16
      refine r_aload_n (pc := 21) hc 0 dX6_disk_21 rfl rfl ?_
      refine r_bipush (pc := 22) (v := 11) hc dX6_disk_22 (by decide) ?_
      refine r_bipush (pc := 24) (v := 8) hc dX6_disk_24 (by decide) ?_
      refine r_iload_n (pc := 26) hc 1 dX6_disk_26 rfl rfl ?_
      refine r_imul (pc := 27) hc dX6_disk_27 ?_
      refine r_iadd (pc := 28) hc dX6_disk_28 ?_
      refine r_iload_n (pc := 29) hc 2 dX6_disk_29 rfl rfl ?_
      refine r_iadd (pc := 30) hc dX6_disk_30 ?_
      refine r_iload_n (pc := 31) hc 3 dX6_disk_31 rfl rfl ?_
      obtain ⟨hs3, hok⟩ := hok
      refine r_callV_i (pc := 32) (as := [.int _, .int _]) hc (c_X6_puts l G hs3) kk6 (by decide) rfl mV_X6_puts kM_X6_52 ⟨Nat.le_of_ble_eq_true rfl, Nat.le_of_ble_eq_true rfl⟩ ⟨Nat.le_refl 0, Nat.le_refl 0⟩ rfl rfl (Nat.le_of_ble_eq_true rfl) dX6_disk_32 (fun r σ' h => ?_)
      obtain ⟨rfl, rfl⟩ := h
      refine r_bipush (pc := 35) (v := 100) hc dX6_disk_35 (by decide) ?_
      refine r_iadd (pc := 37) hc dX6_disk_37 ?_
      exact r_iret hc hr rfl dX6_disk_38 (hq (_, _) rfl)
    · have hok := hok.1 c16
      have hq := o_qp hq c16
      refine r_iconst (pc := 19) (v := (-1)) hc dX6_disk_19 rfl ?_
      exact r_iret hc hr rfl dX6_disk_20 (hq (_, _) rfl)
noncomputable def f_X6_letterAt (p1 : Int32) (σ : Sg) : Int32 :=
  o_ite ((σ 34 4) ≤ p1) (
    0) (
    (σ 37 p1.toNatClampNeg))
def ok_X6_letterAt (p1 : Int32) (σ : Sg) : Prop :=
  (((σ 34 4) ≤ p1) →
    True) ∧ (¬ ((σ 34 4) ≤ p1) →
    (vp_in p1 60) ∧ (True))
set_option maxHeartbeats 4000000 in
set_option maxRecDepth 100000 in
theorem c_X6_letterAt (l : Launch) (G : Gt) {p1 : Int32}  {σ : Sg} (hok : ok_X6_letterAt p1 σ) : o_Ci l G yX6_letterAt cX6_letterAt 2 (some .int) 0 0 [.ref (gAd G 34), .int p1] σ (fun r σ' => r = f_X6_letterAt p1 σ ∧ σ' = σ) := by
  refine o_Ci.of (by decide +kernel) (Nat.le_of_ble_eq_true rfl) ?_
  intro p e s m args below meth c hc hr
  have hq : ∀ q : Int32, q = f_X6_letterAt p1 σ → (fun r σ' => r = f_X6_letterAt p1 σ ∧ σ' = σ) q σ := fun q h => ⟨h, rfl⟩
  refine r_iload_n (pc := 0) hc 1 dX6_letterAt_0 rfl rfl ?_
  refine r_aload_n (pc := 1) hc 0 dX6_letterAt_1 rfl rfl ?_
  refine r_geti (pc := 2) hc 4 kk6 (by decide) rfl (by decide) kF_X6_65 rfl rfl dX6_letterAt_2 ?_
  refine r_icmp_ge (pc := 5) (tgt := 17) hc dX6_letterAt_5 (by decide) (fun c5 => ?_) (fun c5 => ?_)
  · have hok := hok.1 c5
    have hq := o_qp hq c5
    refine r_iconst (pc := 17) (v := 0) hc dX6_letterAt_17 rfl ?_
    exact r_iret hc hr rfl dX6_letterAt_18 (hq _ rfl)
  · have hok := hok.2 c5
    have hq := o_qn hq c5
    refine r_aload_n (pc := 8) hc 0 dX6_letterAt_8 rfl rfl ?_
    refine r_getr (pc := 9) (j := 37) hc 3 kk6 (by decide) rfl (by decide) kF_X6_16 rfl rfl dX6_letterAt_9 ?_
    refine r_iload_n (pc := 12) hc 1 dX6_letterAt_12 rfl rfl ?_
    obtain ⟨hs1, hok⟩ := hok
    refine r_iald (pc := 13) (k := _) hc (by decide) rfl hs1 rfl dX6_letterAt_13 ?_
    refine r_goto (pc := 14) (tgt := 18) hc dX6_letterAt_14 (by decide) ?_
    exact r_iret hc hr rfl dX6_letterAt_18 (hq _ rfl)
noncomputable def f_X6_isDigit (p1 : Int32) (σ : Sg) : Int32 :=
  (f_X6_in (f_X6_letterAt p1 σ) 48 57 σ)
def ok_X6_isDigit (p1 : Int32) (σ : Sg) : Prop :=
  (ok_X6_letterAt p1 σ) ∧ ((ok_X6_in (f_X6_letterAt p1 σ) 48 57 σ) ∧ ((narrow .boolean (.int (f_X6_in (f_X6_letterAt p1 σ) 48 57 σ)) = .int (f_X6_in (f_X6_letterAt p1 σ) 48 57 σ)) ∧ (True)))
set_option maxHeartbeats 4000000 in
set_option maxRecDepth 100000 in
theorem c_X6_isDigit (l : Launch) (G : Gt) {p1 : Int32}  {σ : Sg} (hok : ok_X6_isDigit p1 σ) : o_Ci l G yX6_isDigit cX6_isDigit 2 (some .boolean) 1 22 [.ref (gAd G 34), .int p1] σ (fun r σ' => r = f_X6_isDigit p1 σ ∧ σ' = σ) := by
  refine o_Ci.of (by decide +kernel) (Nat.le_of_ble_eq_true rfl) ?_
  intro p e s m args below meth c hc hr
  have hq : ∀ q : Int32, q = f_X6_isDigit p1 σ → (fun r σ' => r = f_X6_isDigit p1 σ ∧ σ' = σ) q σ := fun q h => ⟨h, rfl⟩
  refine r_aload_n (pc := 0) hc 0 dX6_isDigit_0 rfl rfl ?_
  refine r_iload_n (pc := 1) hc 1 dX6_isDigit_1 rfl rfl ?_
  obtain ⟨hs1, hok⟩ := hok
  refine r_callV_i (pc := 2) (as := [.int _]) hc (c_X6_letterAt l G hs1) kk6 (by decide) rfl mV_X6_letterAt kM_X6_138 ⟨Nat.le_of_ble_eq_true rfl, Nat.le_of_ble_eq_true rfl⟩ ⟨Nat.le_refl 0, Nat.le_refl 0⟩ rfl rfl (Nat.le_of_ble_eq_true rfl) dX6_isDigit_2 (fun r σ' h => ?_)
  obtain ⟨rfl, rfl⟩ := h
  refine r_bipush (pc := 5) (v := 48) hc dX6_isDigit_5 (by decide) ?_
  refine r_bipush (pc := 7) (v := 57) hc dX6_isDigit_7 (by decide) ?_
  obtain ⟨hs2, hok⟩ := hok
  refine r_callS_i (pc := 9) (as := [.int _, .int _, .int _]) hc (c_X6_in l G hs2) mS_X6_in kM_X6_32 ⟨Nat.le_of_ble_eq_true rfl, Nat.le_of_ble_eq_true rfl⟩ ⟨Nat.le_refl 0, Nat.le_refl 0⟩ rfl rfl (Nat.le_of_ble_eq_true rfl) dX6_isDigit_9 (fun r σ' h => ?_)
  obtain ⟨rfl, rfl⟩ := h
  obtain ⟨hs3, hok⟩ := hok
  exact r_iret hc hr hs3 dX6_isDigit_12 (hq _ rfl)
noncomputable def f_X6_entry_206  (x2 : Int32) (y0 : Int32) (σ : Sg) : Int32 × Sg :=
  let σ1 := pu σ 34 14 y0
  let σ2 := pu σ1 34 11 (x2 + 1)
  o_ite ((σ2 34 12) ≤ 2) (
    o_ite ((σ2 34 13) ≤ 7) (
      o_ite ((σ2 34 14) ≤ 20) (
        o_ite ((σ2 39 ((10 * (σ2 34 12)) + (σ2 34 13)).toNatClampNeg) = 1) (
          (5, σ2)) (
          (0, σ2))) (
        (4, σ2))) (
      (3, σ2))) (
    (2, σ2))
def ok_X6_entry_206  (x2 : Int32) (y0 : Int32) (σ : Sg) : Prop :=
  let σ1 := pu σ 34 14 y0
  let σ2 := pu σ1 34 11 (x2 + 1)
  (((σ2 34 12) ≤ 2) →
    (((σ2 34 13) ≤ 7) →
      (((σ2 34 14) ≤ 20) →
        (vp_in ((10 * (σ2 34 12)) + (σ2 34 13)) 30) ∧ ((((σ2 39 ((10 * (σ2 34 12)) + (σ2 34 13)).toNatClampNeg) = 1) →
          True) ∧ (¬ ((σ2 39 ((10 * (σ2 34 12)) + (σ2 34 13)).toNatClampNeg) = 1) →
          True))) ∧ (¬ ((σ2 34 14) ≤ 20) →
        True)) ∧ (¬ ((σ2 34 13) ≤ 7) →
      True)) ∧ (¬ ((σ2 34 12) ≤ 2) →
    True)
noncomputable def f_X6_entry_64  (x1 : Int32) (y0 : Int32) (σ : Sg) : Int32 × Sg :=
  o_ite ((f_X6_isDigit (σ 34 10) σ) = 0) (
    (1, σ)) (
    o_ite ((f_X6_isDigit ((σ 34 10) + 1) σ) = 0) (
      (1, σ)) (
      o_ite (x1 = 0) (
        (1, σ)) (
        o_ite ((f_X6_isDigit ((σ 34 10) + 3) σ) = 0) (
          (1, σ)) (
          o_ite ((f_X6_letterAt y0 σ) = 59) (
            let σ6 := pu σ 34 12 ((f_X6_letterAt (σ 34 10) σ) - 48)
            let σ8 := pu σ6 34 13 ((f_X6_letterAt ((σ6 34 10) + 1) σ6) - 48)
            let σ10 := pu σ8 34 14 ((f_X6_letterAt ((σ8 34 10) + 3) σ8) - 48)
            o_ite (y0 = ((σ10 34 10) + 5)) (
              f_X6_entry_206 y0 (((10 * (σ10 34 14)) + (f_X6_letterAt ((σ10 34 10) + 4) σ10)) - 48) σ10) (
              f_X6_entry_206 y0 (σ10 34 14) σ10)) (
            (1, σ))))))
def ok_X6_entry_64  (x1 : Int32) (y0 : Int32) (σ : Sg) : Prop :=
  (ok_X6_isDigit (σ 34 10) σ) ∧ ((((f_X6_isDigit (σ 34 10) σ) = 0) →
    True) ∧ (¬ ((f_X6_isDigit (σ 34 10) σ) = 0) →
    (ok_X6_isDigit ((σ 34 10) + 1) σ) ∧ ((((f_X6_isDigit ((σ 34 10) + 1) σ) = 0) →
      True) ∧ (¬ ((f_X6_isDigit ((σ 34 10) + 1) σ) = 0) →
      ((x1 = 0) →
        True) ∧ (¬ (x1 = 0) →
        (ok_X6_isDigit ((σ 34 10) + 3) σ) ∧ ((((f_X6_isDigit ((σ 34 10) + 3) σ) = 0) →
          True) ∧ (¬ ((f_X6_isDigit ((σ 34 10) + 3) σ) = 0) →
          (ok_X6_letterAt y0 σ) ∧ ((((f_X6_letterAt y0 σ) = 59) →
            (ok_X6_letterAt (σ 34 10) σ) ∧ (let σ6 := pu σ 34 12 ((f_X6_letterAt (σ 34 10) σ) - 48)
            (ok_X6_letterAt ((σ6 34 10) + 1) σ6) ∧ (let σ8 := pu σ6 34 13 ((f_X6_letterAt ((σ6 34 10) + 1) σ6) - 48)
            (ok_X6_letterAt ((σ8 34 10) + 3) σ8) ∧ (let σ10 := pu σ8 34 14 ((f_X6_letterAt ((σ8 34 10) + 3) σ8) - 48)
            ((y0 = ((σ10 34 10) + 5)) →
              (ok_X6_letterAt ((σ10 34 10) + 4) σ10) ∧ (ok_X6_entry_206 y0 (((10 * (σ10 34 14)) + (f_X6_letterAt ((σ10 34 10) + 4) σ10)) - 48) σ10)) ∧ (¬ (y0 = ((σ10 34 10) + 5)) →
              ok_X6_entry_206 y0 (σ10 34 14) σ10))))) ∧ (¬ ((f_X6_letterAt y0 σ) = 59) →
            True)))))))))
noncomputable def f_X6_entry_35  (y0 : Int32) (σ : Sg) : Int32 × Sg :=
  o_ite ((f_X6_isDigit ((σ 34 10) + 4) σ) = 0) (
    f_X6_entry_64 y0 ((σ 34 10) + 4) σ) (
    f_X6_entry_64 y0 ((σ 34 10) + 5) σ)
def ok_X6_entry_35  (y0 : Int32) (σ : Sg) : Prop :=
  (ok_X6_isDigit ((σ 34 10) + 4) σ) ∧ ((((f_X6_isDigit ((σ 34 10) + 4) σ) = 0) →
    ok_X6_entry_64 y0 ((σ 34 10) + 4) σ) ∧ (¬ ((f_X6_isDigit ((σ 34 10) + 4) σ) = 0) →
    ok_X6_entry_64 y0 ((σ 34 10) + 5) σ))
noncomputable def f_X6_entry_30   (σ : Sg) : Int32 × Sg :=
  f_X6_entry_35 1 σ
def ok_X6_entry_30   (σ : Sg) : Prop :=
  ok_X6_entry_35 1 σ
noncomputable def f_X6_entry  (σ : Sg) : Int32 × Sg :=
  o_ite ((f_X6_letterAt ((σ 34 10) + 2) σ) = 43) (
    f_X6_entry_30 σ) (
    o_ite ((f_X6_letterAt ((σ 34 10) + 2) σ) = 45) (
      f_X6_entry_30 σ) (
      f_X6_entry_35 0 σ))
def ok_X6_entry  (σ : Sg) : Prop :=
  (ok_X6_letterAt ((σ 34 10) + 2) σ) ∧ ((((f_X6_letterAt ((σ 34 10) + 2) σ) = 43) →
    ok_X6_entry_30 σ) ∧ (¬ ((f_X6_letterAt ((σ 34 10) + 2) σ) = 43) →
    (ok_X6_letterAt ((σ 34 10) + 2) σ) ∧ ((((f_X6_letterAt ((σ 34 10) + 2) σ) = 45) →
      ok_X6_entry_30 σ) ∧ (¬ ((f_X6_letterAt ((σ 34 10) + 2) σ) = 45) →
      ok_X6_entry_35 0 σ))))
set_option maxHeartbeats 4000000 in
set_option maxRecDepth 100000 in
theorem t_X6_entry_206 {p : Program} {l : Launch} {e : Env} {s : State} {m : MethodId} {args : Array Value} {below : List Frame} {meth : Method} {c : Code} {G : Gt} {post : Int32 → Sg → Prop}   (hc : o_Cx p s m args meth c G cX6_entry yX6_entry.cls 3) (hr : meth.sig.returnType = (some .int)) {x2 : Int32} {y0 : Int32} {σ : Sg} (hok : ok_X6_entry_206  x2 y0 σ) (hq : ∀ q : Int32 × Sg, q = f_X6_entry_206  x2 y0 σ → post q.1 q.2) : o_V p l e { frames := 2, cells := 0, slots := 0, locals := 43 } s m args below meth c (MQ below (va_Qi post (fun σ' t => o_W G σ' t.heap) (o_A G)) args s 0 0 (o_A G)) G 0 0 3 σ 206 [(0, .ref (gAd G 34)), (2, .int x2)] [.int y0, .ref (gAd G 34)] := by
  refine r_put (pc := 206) hc 14 kk6 (by decide) rfl (by decide) kF_X6_153 rfl rfl rfl rfl rfl dX6_entry_206 ?_
  refine r_aload_n (pc := 209) hc 0 dX6_entry_209 rfl rfl ?_
  refine r_iload_n (pc := 210) hc 1 dX6_entry_210 rfl rfl ?_
  refine r_iconst (pc := 211) (v := 1) hc dX6_entry_211 rfl ?_
  refine r_iadd (pc := 212) hc dX6_entry_212 ?_
  refine r_put (pc := 213) hc 11 kk6 (by decide) rfl (by decide) kF_X6_156 rfl rfl rfl rfl rfl dX6_entry_213 ?_
  refine r_aload_n (pc := 216) hc 0 dX6_entry_216 rfl rfl ?_
  refine r_geti (pc := 217) hc 12 kk6 (by decide) rfl (by decide) kF_X6_147 rfl rfl dX6_entry_217 ?_
  refine r_iconst (pc := 220) (v := 2) hc dX6_entry_220 rfl ?_
  refine r_icmp_le (pc := 221) (tgt := 228) hc dX6_entry_221 (by decide) (fun c221 => ?_) (fun c221 => ?_)
  · have hok := hok.1 c221
    have hq := o_qp hq c221
    refine r_aload_n (pc := 228) hc 0 dX6_entry_228 rfl rfl ?_
    refine r_geti (pc := 229) hc 13 kk6 (by decide) rfl (by decide) kF_X6_150 rfl rfl dX6_entry_229 ?_
    refine r_bipush (pc := 232) (v := 7) hc dX6_entry_232 (by decide) ?_
    refine r_icmp_le (pc := 234) (tgt := 241) hc dX6_entry_234 (by decide) (fun c234 => ?_) (fun c234 => ?_)
    · have hok := hok.1 c234
      have hq := o_qp hq c234
      refine r_aload_n (pc := 241) hc 0 dX6_entry_241 rfl rfl ?_
      refine r_geti (pc := 242) hc 14 kk6 (by decide) rfl (by decide) kF_X6_153 rfl rfl dX6_entry_242 ?_
      refine r_bipush (pc := 245) (v := 20) hc dX6_entry_245 (by decide) ?_
      refine r_icmp_le (pc := 247) (tgt := 254) hc dX6_entry_247 (by decide) (fun c247 => ?_) (fun c247 => ?_)
      · have hok := hok.1 c247
        have hq := o_qp hq c247
        refine r_aload_n (pc := 254) hc 0 dX6_entry_254 rfl rfl ?_
        refine r_getr (pc := 255) (j := 39) hc 15 kk6 (by decide) rfl (by decide) kF_X6_22 rfl rfl dX6_entry_255 ?_
        refine r_bipush (pc := 258) (v := 10) hc dX6_entry_258 (by decide) ?_
        refine r_aload_n (pc := 260) hc 0 dX6_entry_260 rfl rfl ?_
        refine r_geti (pc := 261) hc 12 kk6 (by decide) rfl (by decide) kF_X6_147 rfl rfl dX6_entry_261 ?_
        refine r_imul (pc := 264) hc dX6_entry_264 ?_
        refine r_aload_n (pc := 265) hc 0 dX6_entry_265 rfl rfl ?_
        refine r_geti (pc := 266) hc 13 kk6 (by decide) rfl (by decide) kF_X6_150 rfl rfl dX6_entry_266 ?_
        refine r_iadd (pc := 269) hc dX6_entry_269 ?_
        obtain ⟨hs3, hok⟩ := hok
        refine r_iald (pc := 270) (k := _) hc (by decide) rfl hs3 rfl dX6_entry_270 ?_
        refine r_iconst (pc := 271) (v := 1) hc dX6_entry_271 rfl ?_
        refine r_icmp_ne (pc := 272) (tgt := 279) hc dX6_entry_272 (by decide) (fun c272 => ?_) (fun c272 => ?_)
        · have hok := hok.2 c272
          have hq := o_qn hq c272
          refine r_iconst (pc := 279) (v := 0) hc dX6_entry_279 rfl ?_
          exact r_iret hc hr rfl dX6_entry_280 (hq (_, _) rfl)
        · have hok := hok.1 c272
          have hq := o_qp hq c272
          refine r_iconst (pc := 275) (v := 5) hc dX6_entry_275 rfl ?_
          refine r_goto (pc := 276) (tgt := 280) hc dX6_entry_276 (by decide) ?_
          exact r_iret hc hr rfl dX6_entry_280 (hq (_, _) rfl)
      · have hok := hok.2 c247
        have hq := o_qn hq c247
        refine r_iconst (pc := 250) (v := 4) hc dX6_entry_250 rfl ?_
        refine r_goto (pc := 251) (tgt := 280) hc dX6_entry_251 (by decide) ?_
        exact r_iret hc hr rfl dX6_entry_280 (hq (_, _) rfl)
    · have hok := hok.2 c234
      have hq := o_qn hq c234
      refine r_iconst (pc := 237) (v := 3) hc dX6_entry_237 rfl ?_
      refine r_goto (pc := 238) (tgt := 280) hc dX6_entry_238 (by decide) ?_
      exact r_iret hc hr rfl dX6_entry_280 (hq (_, _) rfl)
  · have hok := hok.2 c221
    have hq := o_qn hq c221
    refine r_iconst (pc := 224) (v := 2) hc dX6_entry_224 rfl ?_
    refine r_goto (pc := 225) (tgt := 280) hc dX6_entry_225 (by decide) ?_
    exact r_iret hc hr rfl dX6_entry_280 (hq (_, _) rfl)
set_option maxHeartbeats 4000000 in
set_option maxRecDepth 100000 in
theorem t_X6_entry_64 {p : Program} {l : Launch} {e : Env} {s : State} {m : MethodId} {args : Array Value} {below : List Frame} {meth : Method} {c : Code} {G : Gt} {post : Int32 → Sg → Prop}   (hc : o_Cx p s m args meth c G cX6_entry yX6_entry.cls 3) (hr : meth.sig.returnType = (some .int)) {x1 : Int32} {y0 : Int32} {σ : Sg} (hok : ok_X6_entry_64  x1 y0 σ) (hq : ∀ q : Int32 × Sg, q = f_X6_entry_64  x1 y0 σ → post q.1 q.2) : o_V p l e { frames := 2, cells := 0, slots := 0, locals := 43 } s m args below meth c (MQ below (va_Qi post (fun σ' t => o_W G σ' t.heap) (o_A G)) args s 0 0 (o_A G)) G 0 0 3 σ 64 [(0, .ref (gAd G 34)), (1, .int x1)] [.int y0] := by
  refine r_istore_n (pc := 64) (lv' := [(2, _), (0, _), (1, _)]) hc dX6_entry_64 rfl (by decide) rfl ?_
  refine r_aload_n (pc := 65) hc 1 dX6_entry_65 rfl rfl ?_
  refine r_aload_n (pc := 66) hc 1 dX6_entry_66 rfl rfl ?_
  refine r_geti (pc := 67) hc 10 kk6 (by decide) rfl (by decide) kF_X6_141 rfl rfl dX6_entry_67 ?_
  obtain ⟨hs1, hok⟩ := hok
  refine r_callV_i (pc := 70) (as := [.int _]) hc (c_X6_isDigit l G hs1) kk6 (by decide) rfl mV_X6_isDigit kM_X6_144 ⟨Nat.le_of_ble_eq_true rfl, Nat.le_of_ble_eq_true rfl⟩ ⟨Nat.le_refl 0, Nat.le_refl 0⟩ rfl rfl (Nat.le_of_ble_eq_true rfl) dX6_entry_70 (fun r σ' h => ?_)
  obtain ⟨rfl, rfl⟩ := h
  refine r_if_eq (pc := 73) (tgt := 116) hc dX6_entry_73 (by decide) (fun c73 => ?_) (fun c73 => ?_)
  · have hok := hok.1 c73
    have hq := o_qp hq c73
    refine r_iconst (pc := 116) (v := 1) hc dX6_entry_116 rfl ?_
    exact r_iret hc hr rfl dX6_entry_117 (hq (_, _) rfl)
  · have hok := hok.2 c73
    have hq := o_qn hq c73
    refine r_aload_n (pc := 76) hc 1 dX6_entry_76 rfl rfl ?_
    refine r_aload_n (pc := 77) hc 1 dX6_entry_77 rfl rfl ?_
    refine r_geti (pc := 78) hc 10 kk6 (by decide) rfl (by decide) kF_X6_141 rfl rfl dX6_entry_78 ?_
    refine r_iconst (pc := 81) (v := 1) hc dX6_entry_81 rfl ?_
    refine r_iadd (pc := 82) hc dX6_entry_82 ?_
    obtain ⟨hs2, hok⟩ := hok
    refine r_callV_i (pc := 83) (as := [.int _]) hc (c_X6_isDigit l G hs2) kk6 (by decide) rfl mV_X6_isDigit kM_X6_144 ⟨Nat.le_of_ble_eq_true rfl, Nat.le_of_ble_eq_true rfl⟩ ⟨Nat.le_refl 0, Nat.le_refl 0⟩ rfl rfl (Nat.le_of_ble_eq_true rfl) dX6_entry_83 (fun r σ' h => ?_)
    obtain ⟨rfl, rfl⟩ := h
    refine r_if_eq (pc := 86) (tgt := 116) hc dX6_entry_86 (by decide) (fun c86 => ?_) (fun c86 => ?_)
    · have hok := hok.1 c86
      have hq := o_qp hq c86
      refine r_iconst (pc := 116) (v := 1) hc dX6_entry_116 rfl ?_
      exact r_iret hc hr rfl dX6_entry_117 (hq (_, _) rfl)
    · have hok := hok.2 c86
      have hq := o_qn hq c86
      refine r_iload_n (pc := 89) hc 2 dX6_entry_89 rfl rfl ?_
      refine r_if_eq (pc := 90) (tgt := 116) hc dX6_entry_90 (by decide) (fun c90 => ?_) (fun c90 => ?_)
      · have hok := hok.1 c90
        have hq := o_qp hq c90
        refine r_iconst (pc := 116) (v := 1) hc dX6_entry_116 rfl ?_
        exact r_iret hc hr rfl dX6_entry_117 (hq (_, _) rfl)
      · have hok := hok.2 c90
        have hq := o_qn hq c90
        refine r_aload_n (pc := 93) hc 1 dX6_entry_93 rfl rfl ?_
        refine r_aload_n (pc := 94) hc 1 dX6_entry_94 rfl rfl ?_
        refine r_geti (pc := 95) hc 10 kk6 (by decide) rfl (by decide) kF_X6_141 rfl rfl dX6_entry_95 ?_
        refine r_iconst (pc := 98) (v := 3) hc dX6_entry_98 rfl ?_
        refine r_iadd (pc := 99) hc dX6_entry_99 ?_
        obtain ⟨hs3, hok⟩ := hok
        refine r_callV_i (pc := 100) (as := [.int _]) hc (c_X6_isDigit l G hs3) kk6 (by decide) rfl mV_X6_isDigit kM_X6_144 ⟨Nat.le_of_ble_eq_true rfl, Nat.le_of_ble_eq_true rfl⟩ ⟨Nat.le_refl 0, Nat.le_refl 0⟩ rfl rfl (Nat.le_of_ble_eq_true rfl) dX6_entry_100 (fun r σ' h => ?_)
        obtain ⟨rfl, rfl⟩ := h
        refine r_if_eq (pc := 103) (tgt := 116) hc dX6_entry_103 (by decide) (fun c103 => ?_) (fun c103 => ?_)
        · have hok := hok.1 c103
          have hq := o_qp hq c103
          refine r_iconst (pc := 116) (v := 1) hc dX6_entry_116 rfl ?_
          exact r_iret hc hr rfl dX6_entry_117 (hq (_, _) rfl)
        · have hok := hok.2 c103
          have hq := o_qn hq c103
          refine r_aload_n (pc := 106) hc 1 dX6_entry_106 rfl rfl ?_
          refine r_iload_n (pc := 107) hc 0 dX6_entry_107 rfl rfl ?_
          obtain ⟨hs4, hok⟩ := hok
          refine r_callV_i (pc := 108) (as := [.int _]) hc (c_X6_letterAt l G hs4) kk6 (by decide) rfl mV_X6_letterAt kM_X6_138 ⟨Nat.le_of_ble_eq_true rfl, Nat.le_of_ble_eq_true rfl⟩ ⟨Nat.le_refl 0, Nat.le_refl 0⟩ rfl rfl (Nat.le_of_ble_eq_true rfl) dX6_entry_108 (fun r σ' h => ?_)
          obtain ⟨rfl, rfl⟩ := h
          refine r_bipush (pc := 111) (v := 59) hc dX6_entry_111 (by decide) ?_
          refine r_icmp_eq (pc := 113) (tgt := 118) hc dX6_entry_113 (by decide) (fun c113 => ?_) (fun c113 => ?_)
          · have hok := hok.1 c113
            have hq := o_qp hq c113
            refine r_aload_n (pc := 118) hc 1 dX6_entry_118 rfl rfl ?_
            refine r_aload_n (pc := 119) hc 1 dX6_entry_119 rfl rfl ?_
            refine r_aload_n (pc := 120) hc 1 dX6_entry_120 rfl rfl ?_
            refine r_geti (pc := 121) hc 10 kk6 (by decide) rfl (by decide) kF_X6_141 rfl rfl dX6_entry_121 ?_
            obtain ⟨hs5, hok⟩ := hok
            refine r_callV_i (pc := 124) (as := [.int _]) hc (c_X6_letterAt l G hs5) kk6 (by decide) rfl mV_X6_letterAt kM_X6_138 ⟨Nat.le_of_ble_eq_true rfl, Nat.le_of_ble_eq_true rfl⟩ ⟨Nat.le_refl 0, Nat.le_refl 0⟩ rfl rfl (Nat.le_of_ble_eq_true rfl) dX6_entry_124 (fun r σ' h => ?_)
            obtain ⟨rfl, rfl⟩ := h
            refine r_bipush (pc := 127) (v := 48) hc dX6_entry_127 (by decide) ?_
            refine r_isub (pc := 129) hc dX6_entry_129 ?_
            refine r_put (pc := 130) hc 12 kk6 (by decide) rfl (by decide) kF_X6_147 rfl rfl rfl rfl rfl dX6_entry_130 ?_
            refine r_aload_n (pc := 133) hc 1 dX6_entry_133 rfl rfl ?_
            refine r_aload_n (pc := 134) hc 1 dX6_entry_134 rfl rfl ?_
            refine r_aload_n (pc := 135) hc 1 dX6_entry_135 rfl rfl ?_
            refine r_geti (pc := 136) hc 10 kk6 (by decide) rfl (by decide) kF_X6_141 rfl rfl dX6_entry_136 ?_
            refine r_iconst (pc := 139) (v := 1) hc dX6_entry_139 rfl ?_
            refine r_iadd (pc := 140) hc dX6_entry_140 ?_
            obtain ⟨hs7, hok⟩ := hok
            refine r_callV_i (pc := 141) (as := [.int _]) hc (c_X6_letterAt l G hs7) kk6 (by decide) rfl mV_X6_letterAt kM_X6_138 ⟨Nat.le_of_ble_eq_true rfl, Nat.le_of_ble_eq_true rfl⟩ ⟨Nat.le_refl 0, Nat.le_refl 0⟩ rfl rfl (Nat.le_of_ble_eq_true rfl) dX6_entry_141 (fun r σ' h => ?_)
            obtain ⟨rfl, rfl⟩ := h
            refine r_bipush (pc := 144) (v := 48) hc dX6_entry_144 (by decide) ?_
            refine r_isub (pc := 146) hc dX6_entry_146 ?_
            refine r_put (pc := 147) hc 13 kk6 (by decide) rfl (by decide) kF_X6_150 rfl rfl rfl rfl rfl dX6_entry_147 ?_
            refine r_aload_n (pc := 150) hc 1 dX6_entry_150 rfl rfl ?_
            refine r_aload_n (pc := 151) hc 1 dX6_entry_151 rfl rfl ?_
            refine r_aload_n (pc := 152) hc 1 dX6_entry_152 rfl rfl ?_
            refine r_geti (pc := 153) hc 10 kk6 (by decide) rfl (by decide) kF_X6_141 rfl rfl dX6_entry_153 ?_
            refine r_iconst (pc := 156) (v := 3) hc dX6_entry_156 rfl ?_
            refine r_iadd (pc := 157) hc dX6_entry_157 ?_
            obtain ⟨hs9, hok⟩ := hok
            refine r_callV_i (pc := 158) (as := [.int _]) hc (c_X6_letterAt l G hs9) kk6 (by decide) rfl mV_X6_letterAt kM_X6_138 ⟨Nat.le_of_ble_eq_true rfl, Nat.le_of_ble_eq_true rfl⟩ ⟨Nat.le_refl 0, Nat.le_refl 0⟩ rfl rfl (Nat.le_of_ble_eq_true rfl) dX6_entry_158 (fun r σ' h => ?_)
            obtain ⟨rfl, rfl⟩ := h
            refine r_bipush (pc := 161) (v := 48) hc dX6_entry_161 (by decide) ?_
            refine r_isub (pc := 163) hc dX6_entry_163 ?_
            refine r_put (pc := 164) hc 14 kk6 (by decide) rfl (by decide) kF_X6_153 rfl rfl rfl rfl rfl dX6_entry_164 ?_
            refine r_aload_n (pc := 167) hc 1 dX6_entry_167 rfl rfl ?_
            refine r_iload_n (pc := 168) hc 0 dX6_entry_168 rfl rfl ?_
            refine r_aload_n (pc := 169) hc 1 dX6_entry_169 rfl rfl ?_
            refine r_geti (pc := 170) hc 10 kk6 (by decide) rfl (by decide) kF_X6_141 rfl rfl dX6_entry_170 ?_
            refine r_iconst (pc := 173) (v := 5) hc dX6_entry_173 rfl ?_
            refine r_iadd (pc := 174) hc dX6_entry_174 ?_
            refine r_icmp_ne (pc := 175) (tgt := 202) hc dX6_entry_175 (by decide) (fun c175 => ?_) (fun c175 => ?_)
            · have hok := hok.2 c175
              have hq := o_qn hq c175
              refine r_aload_n (pc := 202) hc 1 dX6_entry_202 rfl rfl ?_
              refine r_geti (pc := 203) hc 14 kk6 (by decide) rfl (by decide) kF_X6_153 rfl rfl dX6_entry_203 ?_
              exact o_V.sub (t_X6_entry_206  hc hr hok hq) [1, 0] rfl
            · have hok := hok.1 c175
              have hq := o_qp hq c175
              refine r_bipush (pc := 178) (v := 10) hc dX6_entry_178 (by decide) ?_
              refine r_aload_n (pc := 180) hc 1 dX6_entry_180 rfl rfl ?_
              refine r_geti (pc := 181) hc 14 kk6 (by decide) rfl (by decide) kF_X6_153 rfl rfl dX6_entry_181 ?_
              refine r_imul (pc := 184) hc dX6_entry_184 ?_
              refine r_aload_n (pc := 185) hc 1 dX6_entry_185 rfl rfl ?_
              refine r_aload_n (pc := 186) hc 1 dX6_entry_186 rfl rfl ?_
              refine r_geti (pc := 187) hc 10 kk6 (by decide) rfl (by decide) kF_X6_141 rfl rfl dX6_entry_187 ?_
              refine r_iconst (pc := 190) (v := 4) hc dX6_entry_190 rfl ?_
              refine r_iadd (pc := 191) hc dX6_entry_191 ?_
              obtain ⟨hs11, hok⟩ := hok
              refine r_callV_i (pc := 192) (as := [.int _]) hc (c_X6_letterAt l G hs11) kk6 (by decide) rfl mV_X6_letterAt kM_X6_138 ⟨Nat.le_of_ble_eq_true rfl, Nat.le_of_ble_eq_true rfl⟩ ⟨Nat.le_refl 0, Nat.le_refl 0⟩ rfl rfl (Nat.le_of_ble_eq_true rfl) dX6_entry_192 (fun r σ' h => ?_)
              obtain ⟨rfl, rfl⟩ := h
              refine r_iadd (pc := 195) hc dX6_entry_195 ?_
              refine r_bipush (pc := 196) (v := 48) hc dX6_entry_196 (by decide) ?_
              refine r_isub (pc := 198) hc dX6_entry_198 ?_
              refine r_goto (pc := 199) (tgt := 206) hc dX6_entry_199 (by decide) ?_
              exact o_V.sub (t_X6_entry_206  hc hr hok hq) [1, 0] rfl
          · have hok := hok.2 c113
            have hq := o_qn hq c113
            refine r_iconst (pc := 116) (v := 1) hc dX6_entry_116 rfl ?_
            exact r_iret hc hr rfl dX6_entry_117 (hq (_, _) rfl)
set_option maxHeartbeats 4000000 in
set_option maxRecDepth 100000 in
theorem t_X6_entry_35 {p : Program} {l : Launch} {e : Env} {s : State} {m : MethodId} {args : Array Value} {below : List Frame} {meth : Method} {c : Code} {G : Gt} {post : Int32 → Sg → Prop}   (hc : o_Cx p s m args meth c G cX6_entry yX6_entry.cls 3) (hr : meth.sig.returnType = (some .int)) {y0 : Int32} {σ : Sg} (hok : ok_X6_entry_35  y0 σ) (hq : ∀ q : Int32 × Sg, q = f_X6_entry_35  y0 σ → post q.1 q.2) : o_V p l e { frames := 2, cells := 0, slots := 0, locals := 43 } s m args below meth c (MQ below (va_Qi post (fun σ' t => o_W G σ' t.heap) (o_A G)) args s 0 0 (o_A G)) G 0 0 3 σ 35 [(0, .ref (gAd G 34))] [.int y0] := by
  refine r_istore_n (pc := 35) (lv' := [(1, _), (0, _)]) hc dX6_entry_35 rfl (by decide) rfl ?_
  refine r_aload_n (pc := 36) hc 1 dX6_entry_36 rfl rfl ?_
  refine r_aload_n (pc := 37) hc 1 dX6_entry_37 rfl rfl ?_
  refine r_geti (pc := 38) hc 10 kk6 (by decide) rfl (by decide) kF_X6_141 rfl rfl dX6_entry_38 ?_
  refine r_iconst (pc := 41) (v := 4) hc dX6_entry_41 rfl ?_
  refine r_iadd (pc := 42) hc dX6_entry_42 ?_
  obtain ⟨hs1, hok⟩ := hok
  refine r_callV_i (pc := 43) (as := [.int _]) hc (c_X6_isDigit l G hs1) kk6 (by decide) rfl mV_X6_isDigit kM_X6_144 ⟨Nat.le_of_ble_eq_true rfl, Nat.le_of_ble_eq_true rfl⟩ ⟨Nat.le_refl 0, Nat.le_refl 0⟩ rfl rfl (Nat.le_of_ble_eq_true rfl) dX6_entry_43 (fun r σ' h => ?_)
  obtain ⟨rfl, rfl⟩ := h
  refine r_if_eq (pc := 46) (tgt := 58) hc dX6_entry_46 (by decide) (fun c46 => ?_) (fun c46 => ?_)
  · have hok := hok.1 c46
    have hq := o_qp hq c46
    refine r_aload_n (pc := 58) hc 1 dX6_entry_58 rfl rfl ?_
    refine r_geti (pc := 59) hc 10 kk6 (by decide) rfl (by decide) kF_X6_141 rfl rfl dX6_entry_59 ?_
    refine r_iconst (pc := 62) (v := 4) hc dX6_entry_62 rfl ?_
    refine r_iadd (pc := 63) hc dX6_entry_63 ?_
    exact o_V.sub (t_X6_entry_64  hc hr hok hq) [1, 0] rfl
  · have hok := hok.2 c46
    have hq := o_qn hq c46
    refine r_aload_n (pc := 49) hc 1 dX6_entry_49 rfl rfl ?_
    refine r_geti (pc := 50) hc 10 kk6 (by decide) rfl (by decide) kF_X6_141 rfl rfl dX6_entry_50 ?_
    refine r_iconst (pc := 53) (v := 5) hc dX6_entry_53 rfl ?_
    refine r_iadd (pc := 54) hc dX6_entry_54 ?_
    refine r_goto (pc := 55) (tgt := 64) hc dX6_entry_55 (by decide) ?_
    exact o_V.sub (t_X6_entry_64  hc hr hok hq) [1, 0] rfl
set_option maxHeartbeats 4000000 in
set_option maxRecDepth 100000 in
theorem t_X6_entry_30 {p : Program} {l : Launch} {e : Env} {s : State} {m : MethodId} {args : Array Value} {below : List Frame} {meth : Method} {c : Code} {G : Gt} {post : Int32 → Sg → Prop}   (hc : o_Cx p s m args meth c G cX6_entry yX6_entry.cls 3) (hr : meth.sig.returnType = (some .int))  {σ : Sg} (hok : ok_X6_entry_30   σ) (hq : ∀ q : Int32 × Sg, q = f_X6_entry_30   σ → post q.1 q.2) : o_V p l e { frames := 2, cells := 0, slots := 0, locals := 43 } s m args below meth c (MQ below (va_Qi post (fun σ' t => o_W G σ' t.heap) (o_A G)) args s 0 0 (o_A G)) G 0 0 3 σ 30 [(0, .ref (gAd G 34))] [] := by
  refine r_iconst (pc := 30) (v := 1) hc dX6_entry_30 rfl ?_
  refine r_goto (pc := 31) (tgt := 35) hc dX6_entry_31 (by decide) ?_
  exact o_V.sub (t_X6_entry_35  hc hr hok hq) [0] rfl
set_option maxHeartbeats 4000000 in
set_option maxRecDepth 100000 in
theorem c_X6_entry (l : Launch) (G : Gt)   {σ : Sg} (hok : ok_X6_entry  σ) : o_Ci l G yX6_entry cX6_entry 3 (some .int) 2 43 [.ref (gAd G 34)] σ (fun r σ' => r = (f_X6_entry  σ).1 ∧ σ' = (f_X6_entry  σ).2) := by
  refine o_Ci.of (by decide +kernel) (Nat.le_of_ble_eq_true rfl) ?_
  intro p e s m args below meth c hc hr
  have hq : ∀ q : Int32 × Sg, q = f_X6_entry  σ → (fun r σ' => r = (f_X6_entry  σ).1 ∧ σ' = (f_X6_entry  σ).2) q.1 q.2 := fun q h => ⟨congrArg Prod.fst h, congrArg Prod.snd h⟩
  refine r_aload_n (pc := 0) hc 0 dX6_entry_0 rfl rfl ?_
  refine r_aload_n (pc := 1) hc 0 dX6_entry_1 rfl rfl ?_
  refine r_geti (pc := 2) hc 10 kk6 (by decide) rfl (by decide) kF_X6_141 rfl rfl dX6_entry_2 ?_
  refine r_iconst (pc := 5) (v := 2) hc dX6_entry_5 rfl ?_
  refine r_iadd (pc := 6) hc dX6_entry_6 ?_
  obtain ⟨hs1, hok⟩ := hok
  refine r_callV_i (pc := 7) (as := [.int _]) hc (c_X6_letterAt l G hs1) kk6 (by decide) rfl mV_X6_letterAt kM_X6_138 ⟨Nat.le_of_ble_eq_true rfl, Nat.le_of_ble_eq_true rfl⟩ ⟨Nat.le_refl 0, Nat.le_refl 0⟩ rfl rfl (Nat.le_of_ble_eq_true rfl) dX6_entry_7 (fun r σ' h => ?_)
  obtain ⟨rfl, rfl⟩ := h
  refine r_bipush (pc := 10) (v := 43) hc dX6_entry_10 (by decide) ?_
  refine r_icmp_eq (pc := 12) (tgt := 30) hc dX6_entry_12 (by decide) (fun c12 => ?_) (fun c12 => ?_)
  · have hok := hok.1 c12
    have hq := o_qp hq c12
    exact o_V.sub (t_X6_entry_30  hc hr hok hq) [0] rfl
  · have hok := hok.2 c12
    have hq := o_qn hq c12
    refine r_aload_n (pc := 15) hc 0 dX6_entry_15 rfl rfl ?_
    refine r_aload_n (pc := 16) hc 0 dX6_entry_16 rfl rfl ?_
    refine r_geti (pc := 17) hc 10 kk6 (by decide) rfl (by decide) kF_X6_141 rfl rfl dX6_entry_17 ?_
    refine r_iconst (pc := 20) (v := 2) hc dX6_entry_20 rfl ?_
    refine r_iadd (pc := 21) hc dX6_entry_21 ?_
    obtain ⟨hs2, hok⟩ := hok
    refine r_callV_i (pc := 22) (as := [.int _]) hc (c_X6_letterAt l G hs2) kk6 (by decide) rfl mV_X6_letterAt kM_X6_138 ⟨Nat.le_of_ble_eq_true rfl, Nat.le_of_ble_eq_true rfl⟩ ⟨Nat.le_refl 0, Nat.le_refl 0⟩ rfl rfl (Nat.le_of_ble_eq_true rfl) dX6_entry_22 (fun r σ' h => ?_)
    obtain ⟨rfl, rfl⟩ := h
    refine r_bipush (pc := 25) (v := 45) hc dX6_entry_25 (by decide) ?_
    refine r_icmp_ne (pc := 27) (tgt := 34) hc dX6_entry_27 (by decide) (fun c27 => ?_) (fun c27 => ?_)
    · have hok := hok.2 c27
      have hq := o_qn hq c27
      refine r_iconst (pc := 34) (v := 0) hc dX6_entry_34 rfl ?_
      exact o_V.sub (t_X6_entry_35  hc hr hok hq) [0] rfl
    · have hok := hok.1 c27
      have hq := o_qp hq c27
      exact o_V.sub (t_X6_entry_30  hc hr hok hq) [0] rfl
noncomputable def f_X6_reads_121 (K : Sg → Int32 × Sg) (y0 : Int32) (y1 : Int32) (σ : Sg) : Int32 × Sg :=
  let σ2 := pu σ 40 y1.toNatClampNeg y0
  let σ3 := pu σ2 34 17 ((σ2 34 17) + 1)
  let σ4 := pu σ3 34 10 (σ3 34 11)
  K σ4
def ok_X6_reads_121 (okK : Sg → Prop) (y0 : Int32) (y1 : Int32) (σ : Sg) : Prop :=
  (vp_in y1 30) ∧ (let σ2 := pu σ 40 y1.toNatClampNeg y0
  let σ3 := pu σ2 34 17 ((σ2 34 17) + 1)
  let σ4 := pu σ3 34 10 (σ3 34 11)
  okK σ4)
noncomputable def f_X6_reads_38  : Nat → Sg → Int32 × Sg
  | 0 => fun  σ => (0, σ)
  | n + 1 => fun  σ =>
    o_ite ((σ 34 4) ≤ (σ 34 10)) (
      (0, σ)) (
      let q2 := f_X6_entry σ
      o_ite (q2.1 ≤ 0) (
        let σ4 := pu q2.2 39 ((10 * (q2.2 34 12)) + (q2.2 34 13)).toNatClampNeg 1
        o_ite ((f_X6_letterAt ((σ4 34 10) + 2) σ4) = 45) (
          f_X6_reads_121 (f_X6_reads_38 n) (-(σ4 34 14)) ((10 * (σ4 34 12)) + (σ4 34 13)) σ4) (
          f_X6_reads_121 (f_X6_reads_38 n) (σ4 34 14) ((10 * (σ4 34 12)) + (σ4 34 13)) σ4)) (
        (q2.1, q2.2)))
def ok_X6_reads_38  : Nat → Sg → Prop
  | 0 => fun  _ => False
  | n + 1 => fun  σ =>
    (((σ 34 4) ≤ (σ 34 10)) →
      True) ∧ (¬ ((σ 34 4) ≤ (σ 34 10)) →
      (ok_X6_entry σ) ∧ (let q2 := f_X6_entry σ
      ((q2.1 ≤ 0) →
        (vp_in ((10 * (q2.2 34 12)) + (q2.2 34 13)) 30) ∧ (let σ4 := pu q2.2 39 ((10 * (q2.2 34 12)) + (q2.2 34 13)).toNatClampNeg 1
        (ok_X6_letterAt ((σ4 34 10) + 2) σ4) ∧ ((((f_X6_letterAt ((σ4 34 10) + 2) σ4) = 45) →
          ok_X6_reads_121 (ok_X6_reads_38 n) (-(σ4 34 14)) ((10 * (σ4 34 12)) + (σ4 34 13)) σ4) ∧ (¬ ((f_X6_letterAt ((σ4 34 10) + 2) σ4) = 45) →
          ok_X6_reads_121 (ok_X6_reads_38 n) (σ4 34 14) ((10 * (σ4 34 12)) + (σ4 34 13)) σ4)))) ∧ (¬ (q2.1 ≤ 0) →
        True)))
noncomputable def f_X6_reads_2  : Nat → Int32 → Sg → Int32 × Sg
  | 0 => fun _ σ => (0, σ)
  | n + 1 => fun x1 σ =>
    o_ite (30 ≤ x1) (
      let σ1 := pu σ 34 10 0
      let σ2 := pu σ1 34 17 0
      f_X6_reads_38  oF σ2) (
      let σ4 := pu σ 39 x1.toNatClampNeg 0
      let σ6 := pu σ4 40 x1.toNatClampNeg 0
      f_X6_reads_2 n (x1 + 1) σ6)
def ok_X6_reads_2  : Nat → Int32 → Sg → Prop
  | 0 => fun _ _ => False
  | n + 1 => fun x1 σ =>
    ((30 ≤ x1) →
      let σ1 := pu σ 34 10 0
      let σ2 := pu σ1 34 17 0
      ok_X6_reads_38  oF σ2) ∧ (¬ (30 ≤ x1) →
      (vp_in x1 30) ∧ (let σ4 := pu σ 39 x1.toNatClampNeg 0
      (vp_in x1 30) ∧ (let σ6 := pu σ4 40 x1.toNatClampNeg 0
      ok_X6_reads_2  n (x1 + 1) σ6)))
noncomputable def f_X6_reads  (σ : Sg) : Int32 × Sg :=
  f_X6_reads_2  oF 0 σ
def ok_X6_reads  (σ : Sg) : Prop :=
  ok_X6_reads_2  oF 0 σ
set_option maxHeartbeats 4000000 in
set_option maxRecDepth 100000 in
theorem t_X6_reads_121 {p : Program} {l : Launch} {e : Env} {s : State} {m : MethodId} {args : Array Value} {below : List Frame} {meth : Method} {c : Code} {G : Gt} {post : Int32 → Sg → Prop} (hc : o_Cx p s m args meth c G cX6_reads yX6_reads.cls 2) (hr : meth.sig.returnType = (some .int)) {K : Sg → Int32 × Sg} {okK : Sg → Prop} (hK : ∀  (zs : Sg), okK  zs → (∀ q : Int32 × Sg, q = K  zs → post q.1 q.2) → o_V p l e { frames := 3, cells := 0, slots := 0, locals := 65 } s m args below meth c (MQ below (va_Qi post (fun σ' t => o_W G σ' t.heap) (o_A G)) args s 0 0 (o_A G)) G 0 0 2 zs 38 [(0, .ref (gAd G 34))] []) {y0 : Int32} {y1 : Int32} {σ : Sg} (hok : ok_X6_reads_121 okK y0 y1 σ) (hq : ∀ q : Int32 × Sg, q = f_X6_reads_121 K y0 y1 σ → post q.1 q.2) : o_V p l e { frames := 3, cells := 0, slots := 0, locals := 65 } s m args below meth c (MQ below (va_Qi post (fun σ' t => o_W G σ' t.heap) (o_A G)) args s 0 0 (o_A G)) G 0 0 2 σ 121 [(0, .ref (gAd G 34))] [.int y0, .int y1, .ref (gAd G 40)] := by
  obtain ⟨hs1, hok⟩ := hok
  refine r_iast (pc := 121) (k := _) hc (by decide) rfl hs1 rfl dX6_reads_121 ?_
  refine r_aload_n (pc := 122) hc 0 dX6_reads_122 rfl rfl ?_
  refine r_dup (pc := 123) hc dX6_reads_123 rfl ?_
  refine r_geti (pc := 124) hc 17 kk6 (by decide) rfl (by decide) kF_X6_159 rfl rfl dX6_reads_124 ?_
  refine r_iconst (pc := 127) (v := 1) hc dX6_reads_127 rfl ?_
  refine r_iadd (pc := 128) hc dX6_reads_128 ?_
  refine r_put (pc := 129) hc 17 kk6 (by decide) rfl (by decide) kF_X6_159 rfl rfl rfl rfl rfl dX6_reads_129 ?_
  refine r_aload_n (pc := 132) hc 0 dX6_reads_132 rfl rfl ?_
  refine r_aload_n (pc := 133) hc 0 dX6_reads_133 rfl rfl ?_
  refine r_geti (pc := 134) hc 11 kk6 (by decide) rfl (by decide) kF_X6_156 rfl rfl dX6_reads_134 ?_
  refine r_put (pc := 137) hc 10 kk6 (by decide) rfl (by decide) kF_X6_141 rfl rfl rfl rfl rfl dX6_reads_137 ?_
  refine r_goto (pc := 140) (tgt := 38) hc dX6_reads_140 (by decide) ?_
  exact o_V.sub (hK  _ hok hq) [0] rfl
set_option maxHeartbeats 4000000 in
set_option maxRecDepth 100000 in
theorem t_X6_reads_38 {p : Program} {l : Launch} {e : Env} {s : State} {m : MethodId} {args : Array Value} {below : List Frame} {meth : Method} {c : Code} {G : Gt} {post : Int32 → Sg → Prop}   (hc : o_Cx p s m args meth c G cX6_reads yX6_reads.cls 2) (hr : meth.sig.returnType = (some .int)) : ∀ (n : Nat)  (σ : Sg) (hok : ok_X6_reads_38  n  σ) (hq : ∀ q : Int32 × Sg, q = f_X6_reads_38  n  σ → post q.1 q.2), o_V p l e { frames := 3, cells := 0, slots := 0, locals := 65 } s m args below meth c (MQ below (va_Qi post (fun σ' t => o_W G σ' t.heap) (o_A G)) args s 0 0 (o_A G)) G 0 0 2 σ 38 [(0, .ref (gAd G 34))] [] := by
  intro n
  induction n with
  | zero =>
    intro  σ hok hq
    exact hok.elim
  | succ n ih =>
    intro  σ hok hq
    refine r_aload_n (pc := 38) hc 0 dX6_reads_38 rfl rfl ?_
    refine r_geti (pc := 39) hc 10 kk6 (by decide) rfl (by decide) kF_X6_141 rfl rfl dX6_reads_39 ?_
    refine r_aload_n (pc := 42) hc 0 dX6_reads_42 rfl rfl ?_
    refine r_geti (pc := 43) hc 4 kk6 (by decide) rfl (by decide) kF_X6_65 rfl rfl dX6_reads_43 ?_
    refine r_icmp_ge (pc := 46) (tgt := 143) hc dX6_reads_46 (by decide) (fun c46 => ?_) (fun c46 => ?_)
    · have hok := hok.1 c46
      have hq := o_qp hq c46
      refine r_iconst (pc := 143) (v := 0) hc dX6_reads_143 rfl ?_
      exact r_iret hc hr rfl dX6_reads_144 (hq (_, _) rfl)
    · have hok := hok.2 c46
      have hq := o_qn hq c46
      refine r_aload_n (pc := 49) hc 0 dX6_reads_49 rfl rfl ?_
      obtain ⟨hs1, hok⟩ := hok
      refine r_callV_i (pc := 50) (as := []) hc (c_X6_entry l G hs1) kk6 (by decide) rfl mV_X6_entry kM_X6_162 ⟨Nat.le_of_ble_eq_true rfl, Nat.le_of_ble_eq_true rfl⟩ ⟨Nat.le_refl 0, Nat.le_refl 0⟩ rfl rfl (Nat.le_of_ble_eq_true rfl) dX6_reads_50 (fun r σ' h => ?_)
      obtain ⟨rfl, rfl⟩ := h
      refine r_istore_n (pc := 53) (lv' := [(1, _), (0, _)]) hc dX6_reads_53 rfl (by decide) rfl ?_
      refine r_iload_n (pc := 54) hc 0 dX6_reads_54 rfl rfl ?_
      refine r_if_le (pc := 55) (tgt := 60) hc dX6_reads_55 (by decide) (fun c55 => ?_) (fun c55 => ?_)
      · have hok := hok.1 c55
        have hq := o_qp hq c55
        refine r_aload_n (pc := 60) hc 1 dX6_reads_60 rfl rfl ?_
        refine r_getr (pc := 61) (j := 39) hc 15 kk6 (by decide) rfl (by decide) kF_X6_22 rfl rfl dX6_reads_61 ?_
        refine r_bipush (pc := 64) (v := 10) hc dX6_reads_64 (by decide) ?_
        refine r_aload_n (pc := 66) hc 1 dX6_reads_66 rfl rfl ?_
        refine r_geti (pc := 67) hc 12 kk6 (by decide) rfl (by decide) kF_X6_147 rfl rfl dX6_reads_67 ?_
        refine r_imul (pc := 70) hc dX6_reads_70 ?_
        refine r_aload_n (pc := 71) hc 1 dX6_reads_71 rfl rfl ?_
        refine r_geti (pc := 72) hc 13 kk6 (by decide) rfl (by decide) kF_X6_150 rfl rfl dX6_reads_72 ?_
        refine r_iadd (pc := 75) hc dX6_reads_75 ?_
        refine r_iconst (pc := 76) (v := 1) hc dX6_reads_76 rfl ?_
        obtain ⟨hs3, hok⟩ := hok
        refine r_iast (pc := 77) (k := _) hc (by decide) rfl hs3 rfl dX6_reads_77 ?_
        refine r_aload_n (pc := 78) hc 1 dX6_reads_78 rfl rfl ?_
        refine r_getr (pc := 79) (j := 40) hc 16 kk6 (by decide) rfl (by decide) kF_X6_25 rfl rfl dX6_reads_79 ?_
        refine r_bipush (pc := 82) (v := 10) hc dX6_reads_82 (by decide) ?_
        refine r_aload_n (pc := 84) hc 1 dX6_reads_84 rfl rfl ?_
        refine r_geti (pc := 85) hc 12 kk6 (by decide) rfl (by decide) kF_X6_147 rfl rfl dX6_reads_85 ?_
        refine r_imul (pc := 88) hc dX6_reads_88 ?_
        refine r_aload_n (pc := 89) hc 1 dX6_reads_89 rfl rfl ?_
        refine r_geti (pc := 90) hc 13 kk6 (by decide) rfl (by decide) kF_X6_150 rfl rfl dX6_reads_90 ?_
        refine r_iadd (pc := 93) hc dX6_reads_93 ?_
        refine r_aload_n (pc := 94) hc 1 dX6_reads_94 rfl rfl ?_
        refine r_aload_n (pc := 95) hc 1 dX6_reads_95 rfl rfl ?_
        refine r_geti (pc := 96) hc 10 kk6 (by decide) rfl (by decide) kF_X6_141 rfl rfl dX6_reads_96 ?_
        refine r_iconst (pc := 99) (v := 2) hc dX6_reads_99 rfl ?_
        refine r_iadd (pc := 100) hc dX6_reads_100 ?_
        obtain ⟨hs5, hok⟩ := hok
        refine r_callV_i (pc := 101) (as := [.int _]) hc (c_X6_letterAt l G hs5) kk6 (by decide) rfl mV_X6_letterAt kM_X6_138 ⟨Nat.le_of_ble_eq_true rfl, Nat.le_of_ble_eq_true rfl⟩ ⟨Nat.le_refl 0, Nat.le_refl 0⟩ rfl rfl (Nat.le_of_ble_eq_true rfl) dX6_reads_101 (fun r σ' h => ?_)
        obtain ⟨rfl, rfl⟩ := h
        refine r_bipush (pc := 104) (v := 45) hc dX6_reads_104 (by decide) ?_
        refine r_icmp_ne (pc := 106) (tgt := 117) hc dX6_reads_106 (by decide) (fun c106 => ?_) (fun c106 => ?_)
        · have hok := hok.2 c106
          have hq := o_qn hq c106
          refine r_aload_n (pc := 117) hc 1 dX6_reads_117 rfl rfl ?_
          refine r_geti (pc := 118) hc 14 kk6 (by decide) rfl (by decide) kF_X6_153 rfl rfl dX6_reads_118 ?_
          exact o_V.sub (t_X6_reads_121 hc hr (K := f_X6_reads_38 n) (okK := ok_X6_reads_38 n) (fun  zs h1 h2 => ih  zs h1 h2) hok hq) [1] rfl
        · have hok := hok.1 c106
          have hq := o_qp hq c106
          refine r_aload_n (pc := 109) hc 1 dX6_reads_109 rfl rfl ?_
          refine r_geti (pc := 110) hc 14 kk6 (by decide) rfl (by decide) kF_X6_153 rfl rfl dX6_reads_110 ?_
          refine r_ineg (pc := 113) hc dX6_reads_113 ?_
          refine r_goto (pc := 114) (tgt := 121) hc dX6_reads_114 (by decide) ?_
          exact o_V.sub (t_X6_reads_121 hc hr (K := f_X6_reads_38 n) (okK := ok_X6_reads_38 n) (fun  zs h1 h2 => ih  zs h1 h2) hok hq) [1] rfl
      · have hok := hok.2 c55
        have hq := o_qn hq c55
        refine r_iload_n (pc := 58) hc 0 dX6_reads_58 rfl rfl ?_
        exact r_iret hc hr rfl dX6_reads_59 (hq (_, _) rfl)
set_option maxHeartbeats 4000000 in
set_option maxRecDepth 100000 in
theorem t_X6_reads_2 {p : Program} {l : Launch} {e : Env} {s : State} {m : MethodId} {args : Array Value} {below : List Frame} {meth : Method} {c : Code} {G : Gt} {post : Int32 → Sg → Prop}   (hc : o_Cx p s m args meth c G cX6_reads yX6_reads.cls 2) (hr : meth.sig.returnType = (some .int)) : ∀ (n : Nat) (x1 : Int32) (σ : Sg) (hok : ok_X6_reads_2  n x1 σ) (hq : ∀ q : Int32 × Sg, q = f_X6_reads_2  n x1 σ → post q.1 q.2), o_V p l e { frames := 3, cells := 0, slots := 0, locals := 65 } s m args below meth c (MQ below (va_Qi post (fun σ' t => o_W G σ' t.heap) (o_A G)) args s 0 0 (o_A G)) G 0 0 2 σ 2 [(0, .ref (gAd G 34)), (1, .int x1)] [] := by
  intro n
  induction n with
  | zero =>
    intro x1 σ hok hq
    exact hok.elim
  | succ n ih =>
    intro x1 σ hok hq
    refine r_iload_n (pc := 2) hc 1 dX6_reads_2 rfl rfl ?_
    refine r_bipush (pc := 3) (v := 30) hc dX6_reads_3 (by decide) ?_
    refine r_icmp_ge (pc := 5) (tgt := 28) hc dX6_reads_5 (by decide) (fun c5 => ?_) (fun c5 => ?_)
    · have hok := hok.1 c5
      have hq := o_qp hq c5
      refine r_aload_n (pc := 28) hc 0 dX6_reads_28 rfl rfl ?_
      refine r_iconst (pc := 29) (v := 0) hc dX6_reads_29 rfl ?_
      refine r_put (pc := 30) hc 10 kk6 (by decide) rfl (by decide) kF_X6_141 rfl rfl rfl rfl rfl dX6_reads_30 ?_
      refine r_aload_n (pc := 33) hc 0 dX6_reads_33 rfl rfl ?_
      refine r_iconst (pc := 34) (v := 0) hc dX6_reads_34 rfl ?_
      refine r_put (pc := 35) hc 17 kk6 (by decide) rfl (by decide) kF_X6_159 rfl rfl rfl rfl rfl dX6_reads_35 ?_
      exact o_V.sub (t_X6_reads_38  hc hr oF  _ hok hq) [0] rfl
    · have hok := hok.2 c5
      have hq := o_qn hq c5
      refine r_aload_n (pc := 8) hc 0 dX6_reads_8 rfl rfl ?_
      refine r_getr (pc := 9) (j := 39) hc 15 kk6 (by decide) rfl (by decide) kF_X6_22 rfl rfl dX6_reads_9 ?_
      refine r_iload_n (pc := 12) hc 1 dX6_reads_12 rfl rfl ?_
      refine r_iconst (pc := 13) (v := 0) hc dX6_reads_13 rfl ?_
      obtain ⟨hs3, hok⟩ := hok
      refine r_iast (pc := 14) (k := _) hc (by decide) rfl hs3 rfl dX6_reads_14 ?_
      refine r_aload_n (pc := 15) hc 0 dX6_reads_15 rfl rfl ?_
      refine r_getr (pc := 16) (j := 40) hc 16 kk6 (by decide) rfl (by decide) kF_X6_25 rfl rfl dX6_reads_16 ?_
      refine r_iload_n (pc := 19) hc 1 dX6_reads_19 rfl rfl ?_
      refine r_iconst (pc := 20) (v := 0) hc dX6_reads_20 rfl ?_
      obtain ⟨hs5, hok⟩ := hok
      refine r_iast (pc := 21) (k := _) hc (by decide) rfl hs5 rfl dX6_reads_21 ?_
      refine r_iinc (pc := 22) (q := 1) (v := _ + 1) (lv' := [(1, _), (0, _)]) hc dX6_reads_22 rfl rfl (by decide) rfl ?_
      refine r_goto (pc := 25) (tgt := 2) hc dX6_reads_25 (by decide) ?_
      exact o_V.sub (ih _ _ hok hq) [1, 0] rfl
set_option maxHeartbeats 4000000 in
set_option maxRecDepth 100000 in
theorem c_X6_reads (l : Launch) (G : Gt)   {σ : Sg} (hok : ok_X6_reads  σ) : o_Ci l G yX6_reads cX6_reads 2 (some .int) 3 65 [.ref (gAd G 34)] σ (fun r σ' => r = (f_X6_reads  σ).1 ∧ σ' = (f_X6_reads  σ).2) := by
  refine o_Ci.of (by decide +kernel) (Nat.le_of_ble_eq_true rfl) ?_
  intro p e s m args below meth c hc hr
  have hq : ∀ q : Int32 × Sg, q = f_X6_reads  σ → (fun r σ' => r = (f_X6_reads  σ).1 ∧ σ' = (f_X6_reads  σ).2) q.1 q.2 := fun q h => ⟨congrArg Prod.fst h, congrArg Prod.snd h⟩
  refine r_iconst (pc := 0) (v := 0) hc dX6_reads_0 rfl ?_
  refine r_istore_n (pc := 1) (lv' := [(1, _), (0, _)]) hc dX6_reads_1 rfl (by decide) rfl ?_
  exact o_V.sub (t_X6_reads_2  hc hr oF _ _ hok hq) [1, 0] rfl
