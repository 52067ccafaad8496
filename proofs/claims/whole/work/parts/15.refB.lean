set_option linter.all false
noncomputable def f_X6_fault (p1 : Int32) (σ : Sg) : Int32 × Sg :=
  o_ite ((f_X6_in p1 0 1 σ) = 0) (
    ((-1), σ)) (
    let q3 := f_X6_reads σ
    o_ite (q3.1 = 0) (
      ((-4), q3.2)) (
      o_ite (p1 = 0) (
        ((q3.2 34 10), q3.2)) (
        (q3.1, q3.2))))
def ok_X6_fault (p1 : Int32) (σ : Sg) : Prop :=
  (ok_X6_in p1 0 1 σ) ∧ ((((f_X6_in p1 0 1 σ) = 0) →
    True) ∧ (¬ ((f_X6_in p1 0 1 σ) = 0) →
    (ok_X6_reads σ) ∧ (let q3 := f_X6_reads σ
    ((q3.1 = 0) →
      True) ∧ (¬ (q3.1 = 0) →
      ((p1 = 0) →
        True) ∧ (¬ (p1 = 0) →
        True)))))
set_option maxHeartbeats 4000000 in
set_option maxRecDepth 100000 in
theorem c_X6_fault (l : Launch) (G : Gt) {p1 : Int32}  {σ : Sg} (hok : ok_X6_fault p1 σ) : o_Ci l G yX6_fault cX6_fault 3 (some .int) 4 86 [.ref (gAd G 34), .int p1] σ (fun r σ' => r = (f_X6_fault p1 σ).1 ∧ σ' = (f_X6_fault p1 σ).2) := by
  refine o_Ci.of (by decide +kernel) (Nat.le_of_ble_eq_true rfl) ?_
  intro p e s m args below meth c hc hr
  have hq : ∀ q : Int32 × Sg, q = f_X6_fault p1 σ → (fun r σ' => r = (f_X6_fault p1 σ).1 ∧ σ' = (f_X6_fault p1 σ).2) q.1 q.2 := fun q h => ⟨congrArg Prod.fst h, congrArg Prod.snd h⟩
  refine r_iload_n (pc := 0) hc 1 dX6_fault_0 rfl rfl ?_
  refine r_iconst (pc := 1) (v := 0) hc dX6_fault_1 rfl ?_
  refine r_iconst (pc := 2) (v := 1) hc dX6_fault_2 rfl ?_
  obtain ⟨hs1, hok⟩ := hok
  refine r_callS_i (pc := 3) (as := [.int _, .int _, .int _]) hc (c_X6_in l G hs1) mS_X6_in kM_X6_32 ⟨Nat.le_of_ble_eq_true rfl, Nat.le_of_ble_eq_true rfl⟩ ⟨Nat.le_refl 0, Nat.le_refl 0⟩ rfl rfl (Nat.le_of_ble_eq_true rfl) dX6_fault_3 (fun r σ' h => ?_)
  obtain ⟨rfl, rfl⟩ := h
  refine r_if_ne (pc := 6) (tgt := 11) hc dX6_fault_6 (by decide) (fun c6 => ?_) (fun c6 => ?_)
  · have hok := hok.2 c6
    have hq := o_qn hq c6
    refine r_aload_n (pc := 11) hc 0 dX6_fault_11 rfl rfl ?_
    obtain ⟨hs2, hok⟩ := hok
    refine r_callV_i (pc := 12) (as := []) hc (c_X6_reads l G hs2) kk6 (by decide) rfl mV_X6_reads kM_X6_165 ⟨Nat.le_of_ble_eq_true rfl, Nat.le_of_ble_eq_true rfl⟩ ⟨Nat.le_refl 0, Nat.le_refl 0⟩ rfl rfl (Nat.le_of_ble_eq_true rfl) dX6_fault_12 (fun r σ' h => ?_)
    obtain ⟨rfl, rfl⟩ := h
    refine r_istore_n (pc := 15) (lv' := [(2, _), (0, _), (1, _)]) hc dX6_fault_15 rfl (by decide) rfl ?_
    refine r_iload_n (pc := 16) hc 0 dX6_fault_16 rfl rfl ?_
    refine r_if_ne (pc := 17) (tgt := 25) hc dX6_fault_17 (by decide) (fun c17 => ?_) (fun c17 => ?_)
    · have hok := hok.2 c17
      have hq := o_qn hq c17
      refine r_iload_n (pc := 25) hc 2 dX6_fault_25 rfl rfl ?_
      refine r_if_ne (pc := 26) (tgt := 36) hc dX6_fault_26 (by decide) (fun c26 => ?_) (fun c26 => ?_)
      · have hok := hok.2 c26
        have hq := o_qn hq c26
        refine r_iload_n (pc := 36) hc 0 dX6_fault_36 rfl rfl ?_
        exact r_iret hc hr rfl dX6_fault_37 (hq (_, _) rfl)
      · have hok := hok.1 c26
        have hq := o_qp hq c26
        refine r_aload_n (pc := 29) hc 1 dX6_fault_29 rfl rfl ?_
        refine r_geti (pc := 30) hc 10 kk6 (by decide) rfl (by decide) kF_X6_141 rfl rfl dX6_fault_30 ?_
        refine r_goto (pc := 33) (tgt := 37) hc dX6_fault_33 (by decide) ?_
        exact r_iret hc hr rfl dX6_fault_37 (hq (_, _) rfl)
    · have hok := hok.1 c17
      have hq := o_qp hq c17
      refine r_bipush (pc := 20) (v := (-4)) hc dX6_fault_20 (by decide) ?_
      refine r_goto (pc := 22) (tgt := 37) hc dX6_fault_22 (by decide) ?_
      exact r_iret hc hr rfl dX6_fault_37 (hq (_, _) rfl)
  · have hok := hok.1 c6
    have hq := o_qp hq c6
    refine r_iconst (pc := 9) (v := (-1)) hc dX6_fault_9 rfl ?_
    exact r_iret hc hr rfl dX6_fault_10 (hq (_, _) rfl)
noncomputable def f_X6_nearer (p0 : Int32) (p1 : Int32) (σ : Sg) : Int32 :=
  o_ite (p0 ≤ (p1 - p0)) (
    p0) (
    (p1 - p0))
def ok_X6_nearer (p0 : Int32) (p1 : Int32) (σ : Sg) : Prop :=
  ((p0 ≤ (p1 - p0)) →
    True) ∧ (¬ (p0 ≤ (p1 - p0)) →
    True)
set_option maxHeartbeats 4000000 in
set_option maxRecDepth 100000 in
theorem c_X6_nearer (l : Launch) (G : Gt) {p0 : Int32} {p1 : Int32}  {σ : Sg} (hok : ok_X6_nearer p0 p1 σ) : o_Ci l G yX6_nearer cX6_nearer 2 (some .int) 0 0 [.int p0, .int p1] σ (fun r σ' => r = f_X6_nearer p0 p1 σ ∧ σ' = σ) := by
  refine o_Ci.of (by decide +kernel) (Nat.le_of_ble_eq_true rfl) ?_
  intro p e s m args below meth c hc hr
  have hq : ∀ q : Int32, q = f_X6_nearer p0 p1 σ → (fun r σ' => r = f_X6_nearer p0 p1 σ ∧ σ' = σ) q σ := fun q h => ⟨h, rfl⟩
  refine r_iload_n (pc := 0) hc 0 dX6_nearer_0 rfl rfl ?_
  refine r_iload_n (pc := 1) hc 1 dX6_nearer_1 rfl rfl ?_
  refine r_iload_n (pc := 2) hc 0 dX6_nearer_2 rfl rfl ?_
  refine r_isub (pc := 3) hc dX6_nearer_3 ?_
  refine r_icmp_le (pc := 4) (tgt := 13) hc dX6_nearer_4 (by decide) (fun c4 => ?_) (fun c4 => ?_)
  · have hok := hok.1 c4
    have hq := o_qp hq c4
    refine r_iload_n (pc := 13) hc 0 dX6_nearer_13 rfl rfl ?_
    exact r_iret hc hr rfl dX6_nearer_14 (hq _ rfl)
  · have hok := hok.2 c4
    have hq := o_qn hq c4
    refine r_iload_n (pc := 7) hc 1 dX6_nearer_7 rfl rfl ?_
    refine r_iload_n (pc := 8) hc 0 dX6_nearer_8 rfl rfl ?_
    refine r_isub (pc := 9) hc dX6_nearer_9 ?_
    refine r_goto (pc := 10) (tgt := 14) hc dX6_nearer_10 (by decide) ?_
    exact r_iret hc hr rfl dX6_nearer_14 (hq _ rfl)
noncomputable def f_X6_finds_185 (K : Int32 → Int32 → Int32 → Int32 → Sg → Sg) (x4 : Int32) (x6 : Int32) (x7 : Int32) (y0 : Int32) (σ : Sg) : Sg :=
  o_ite (x6 = 239) (
    K x4 y0 0 (x7 + 1) σ) (
    K x4 y0 (x6 + 1) (x7 + 1) σ)
def ok_X6_finds_185 (okK : Int32 → Int32 → Int32 → Int32 → Sg → Prop) (x4 : Int32) (x6 : Int32) (x7 : Int32) (y0 : Int32) (σ : Sg) : Prop :=
  ((x6 = 239) →
    okK x4 y0 0 (x7 + 1) σ) ∧ (¬ (x6 = 239) →
    okK x4 y0 (x6 + 1) (x7 + 1) σ)
noncomputable def f_X6_finds_167 (K : Int32 → Int32 → Int32 → Int32 → Sg → Sg) (x5 : Int32) (x6 : Int32) (x7 : Int32) (y0 : Int32) (σ : Sg) : Sg :=
  o_ite (x5 = 254) (
    f_X6_finds_185 K y0 x6 x7 0 σ) (
    f_X6_finds_185 K y0 x6 x7 (x5 + 1) σ)
def ok_X6_finds_167 (okK : Int32 → Int32 → Int32 → Int32 → Sg → Prop) (x5 : Int32) (x6 : Int32) (x7 : Int32) (y0 : Int32) (σ : Sg) : Prop :=
  ((x5 = 254) →
    ok_X6_finds_185 okK y0 x6 x7 0 σ) ∧ (¬ (x5 = 254) →
    ok_X6_finds_185 okK y0 x6 x7 (x5 + 1) σ)
noncomputable def f_X6_finds_151 (K : Int32 → Int32 → Int32 → Int32 → Sg → Sg) (x4 : Int32) (x5 : Int32) (x6 : Int32) (x7 : Int32) (σ : Sg) : Sg :=
  o_ite (x4 = 271) (
    f_X6_finds_167 K x5 x6 x7 0 σ) (
    f_X6_finds_167 K x5 x6 x7 (x4 + 1) σ)
def ok_X6_finds_151 (okK : Int32 → Int32 → Int32 → Int32 → Sg → Prop) (x4 : Int32) (x5 : Int32) (x6 : Int32) (x7 : Int32) (σ : Sg) : Prop :=
  ((x4 = 271) →
    ok_X6_finds_167 okK x5 x6 x7 0 σ) ∧ (¬ (x4 = 271) →
    ok_X6_finds_167 okK x5 x6 x7 (x4 + 1) σ)
noncomputable def f_X6_finds_128 (K : Int32 → Int32 → Int32 → Int32 → Sg → Sg) (x4 : Int32) (x5 : Int32) (x6 : Int32) (x7 : Int32) (y0 : Int32) (σ : Sg) : Sg :=
  o_ite ((σ 34 6) ≤ y0) (
    f_X6_finds_151 K x4 x5 x6 x7 σ) (
    let σ1 := pu σ 34 6 y0
    let σ2 := pu σ1 34 5 x7
    f_X6_finds_151 K x4 x5 x6 x7 σ2)
def ok_X6_finds_128 (okK : Int32 → Int32 → Int32 → Int32 → Sg → Prop) (x4 : Int32) (x5 : Int32) (x6 : Int32) (x7 : Int32) (y0 : Int32) (σ : Sg) : Prop :=
  (((σ 34 6) ≤ y0) →
    ok_X6_finds_151 okK x4 x5 x6 x7 σ) ∧ (¬ ((σ 34 6) ≤ y0) →
    let σ1 := pu σ 34 6 y0
    let σ2 := pu σ1 34 5 x7
    ok_X6_finds_151 okK x4 x5 x6 x7 σ2)
noncomputable def f_X6_finds_102 (K : Int32 → Int32 → Int32 → Int32 → Sg → Sg) (x4 : Int32) (x5 : Int32) (x6 : Int32) (x7 : Int32) (y0 : Int32) (σ : Sg) : Sg :=
  o_ite ((f_X6_nearer x6 240 σ) ≤ y0) (
    f_X6_finds_128 K x4 x5 x6 x7 y0 σ) (
    f_X6_finds_128 K x4 x5 x6 x7 (f_X6_nearer x6 240 σ) σ)
def ok_X6_finds_102 (okK : Int32 → Int32 → Int32 → Int32 → Sg → Prop) (x4 : Int32) (x5 : Int32) (x6 : Int32) (x7 : Int32) (y0 : Int32) (σ : Sg) : Prop :=
  (ok_X6_nearer x6 240 σ) ∧ ((((f_X6_nearer x6 240 σ) ≤ y0) →
    ok_X6_finds_128 okK x4 x5 x6 x7 y0 σ) ∧ (¬ ((f_X6_nearer x6 240 σ) ≤ y0) →
    ok_X6_finds_128 okK x4 x5 x6 x7 (f_X6_nearer x6 240 σ) σ))
noncomputable def f_X6_finds_60  : Nat → Int32 → Int32 → Int32 → Int32 → Sg → Sg
  | 0 => fun _ _ _ _ σ => σ
  | n + 1 => fun x4 x5 x6 x7 σ =>
    o_ite (4080 ≤ x7) (
      σ) (
      o_ite ((f_X6_nearer x5 255 σ) ≤ (f_X6_nearer x4 272 σ)) (
        f_X6_finds_102 (f_X6_finds_60 n) x4 x5 x6 x7 (f_X6_nearer x4 272 σ) σ) (
        f_X6_finds_102 (f_X6_finds_60 n) x4 x5 x6 x7 (f_X6_nearer x5 255 σ) σ))
def ok_X6_finds_60  : Nat → Int32 → Int32 → Int32 → Int32 → Sg → Prop
  | 0 => fun _ _ _ _ _ => False
  | n + 1 => fun x4 x5 x6 x7 σ =>
    ((4080 ≤ x7) →
      True) ∧ (¬ (4080 ≤ x7) →
      (ok_X6_nearer x4 272 σ) ∧ ((ok_X6_nearer x5 255 σ) ∧ ((((f_X6_nearer x5 255 σ) ≤ (f_X6_nearer x4 272 σ)) →
        ok_X6_finds_102 (ok_X6_finds_60 n) x4 x5 x6 x7 (f_X6_nearer x4 272 σ) σ) ∧ (¬ ((f_X6_nearer x5 255 σ) ≤ (f_X6_nearer x4 272 σ)) →
        ok_X6_finds_102 (ok_X6_finds_60 n) x4 x5 x6 x7 (f_X6_nearer x5 255 σ) σ))))
noncomputable def f_X6_finds_43  (x4 : Int32) (x5 : Int32) (y0 : Int32) (σ : Sg) : Sg :=
  let σ1 := pu σ 34 6 4080
  let σ2 := pu σ1 34 5 0
  f_X6_finds_60  oF x4 x5 y0 0 σ2
def ok_X6_finds_43  (x4 : Int32) (x5 : Int32) (y0 : Int32) (σ : Sg) : Prop :=
  let σ1 := pu σ 34 6 4080
  let σ2 := pu σ1 34 5 0
  ok_X6_finds_60  oF x4 x5 y0 0 σ2
noncomputable def f_X6_finds_28  (x3 : Int32) (x4 : Int32) (y0 : Int32) (σ : Sg) : Sg :=
  o_ite (x3 = 0) (
    f_X6_finds_43 x4 y0 0 σ) (
    f_X6_finds_43 x4 y0 (240 - x3) σ)
def ok_X6_finds_28  (x3 : Int32) (x4 : Int32) (y0 : Int32) (σ : Sg) : Prop :=
  ((x3 = 0) →
    ok_X6_finds_43 x4 y0 0 σ) ∧ (¬ (x3 = 0) →
    ok_X6_finds_43 x4 y0 (240 - x3) σ)
noncomputable def f_X6_finds_13  (x2 : Int32) (x3 : Int32) (y0 : Int32) (σ : Sg) : Sg :=
  o_ite (x2 = 0) (
    f_X6_finds_28 x3 y0 0 σ) (
    f_X6_finds_28 x3 y0 (255 - x2) σ)
def ok_X6_finds_13  (x2 : Int32) (x3 : Int32) (y0 : Int32) (σ : Sg) : Prop :=
  ((x2 = 0) →
    ok_X6_finds_28 x3 y0 0 σ) ∧ (¬ (x2 = 0) →
    ok_X6_finds_28 x3 y0 (255 - x2) σ)
noncomputable def f_X6_finds (p1 : Int32) (p2 : Int32) (p3 : Int32) (σ : Sg) : Sg :=
  o_ite (p1 = 0) (
    f_X6_finds_13 p2 p3 0 σ) (
    f_X6_finds_13 p2 p3 (272 - p1) σ)
def ok_X6_finds (p1 : Int32) (p2 : Int32) (p3 : Int32) (σ : Sg) : Prop :=
  ((p1 = 0) →
    ok_X6_finds_13 p2 p3 0 σ) ∧ (¬ (p1 = 0) →
    ok_X6_finds_13 p2 p3 (272 - p1) σ)
set_option maxHeartbeats 4000000 in
set_option maxRecDepth 100000 in
theorem t_X6_finds_185 {p : Program} {l : Launch} {e : Env} {s : State} {m : MethodId} {args : Array Value} {below : List Frame} {meth : Method} {c : Code} {G : Gt} {post : Sg → Prop} (hc : o_Cx p s m args meth c G cX6_finds yX6_finds.cls 10) (hr : meth.sig.returnType = none) {K : Int32 → Int32 → Int32 → Int32 → Sg → Sg} {okK : Int32 → Int32 → Int32 → Int32 → Sg → Prop} (hK : ∀ (z4 : Int32) (z5 : Int32) (z6 : Int32) (z7 : Int32) (zs : Sg), okK z4 z5 z6 z7 zs → (∀ q : Sg, q = K z4 z5 z6 z7 zs → post q) → o_V p l e { frames := 1, cells := 0, slots := 0, locals := 21 } s m args below meth c (MQ below (va_Qv post (fun σ' t => o_W G σ' t.heap) (o_A G)) args s 0 0 (o_A G)) G 0 0 10 zs 60 [(0, .ref (gAd G 34)), (4, .int z4), (5, .int z5), (6, .int z6), (7, .int z7)] []) {x4 : Int32} {x6 : Int32} {x7 : Int32} {y0 : Int32} {σ : Sg} (hok : ok_X6_finds_185 okK x4 x6 x7 y0 σ) (hq : ∀ q : Sg, q = f_X6_finds_185 K x4 x6 x7 y0 σ → post q) : o_V p l e { frames := 1, cells := 0, slots := 0, locals := 21 } s m args below meth c (MQ below (va_Qv post (fun σ' t => o_W G σ' t.heap) (o_A G)) args s 0 0 (o_A G)) G 0 0 10 σ 185 [(0, .ref (gAd G 34)), (4, .int x4), (6, .int x6), (7, .int x7)] [.int y0] := by
  refine r_istore (pc := 185) (lv' := [(5, _), (0, _), (4, _), (6, _), (7, _)]) hc dX6_finds_185 (by decide) rfl ?_
  refine r_iload (pc := 187) hc 3 dX6_finds_187 rfl ?_
  refine r_sipush (pc := 189) (v := 239) hc dX6_finds_189 (by decide) ?_
  refine r_icmp_ne (pc := 192) (tgt := 199) hc dX6_finds_192 (by decide) (fun c192 => ?_) (fun c192 => ?_)
  · have hok := hok.2 c192
    have hq := o_qn hq c192
    refine r_iload (pc := 199) hc 3 dX6_finds_199 rfl ?_
    refine r_iconst (pc := 201) (v := 1) hc dX6_finds_201 rfl ?_
    refine r_iadd (pc := 202) hc dX6_finds_202 ?_
    refine r_istore (pc := 203) (lv' := [(6, _), (5, _), (0, _), (4, _), (7, _)]) hc dX6_finds_203 (by decide) rfl ?_
    refine r_iinc (pc := 205) (q := 4) (v := _ + 1) (lv' := [(7, _), (6, _), (5, _), (0, _), (4, _)]) hc dX6_finds_205 rfl rfl (by decide) rfl ?_
    refine r_goto (pc := 208) (tgt := 60) hc dX6_finds_208 (by decide) ?_
    exact o_V.sub (hK _ _ _ _ _ hok hq) [3, 4, 2, 1, 0] rfl
  · have hok := hok.1 c192
    have hq := o_qp hq c192
    refine r_iconst (pc := 195) (v := 0) hc dX6_finds_195 rfl ?_
    refine r_goto (pc := 196) (tgt := 203) hc dX6_finds_196 (by decide) ?_
    refine r_istore (pc := 203) (lv' := [(6, _), (5, _), (0, _), (4, _), (7, _)]) hc dX6_finds_203 (by decide) rfl ?_
    refine r_iinc (pc := 205) (q := 4) (v := _ + 1) (lv' := [(7, _), (6, _), (5, _), (0, _), (4, _)]) hc dX6_finds_205 rfl rfl (by decide) rfl ?_
    refine r_goto (pc := 208) (tgt := 60) hc dX6_finds_208 (by decide) ?_
    exact o_V.sub (hK _ _ _ _ _ hok hq) [3, 4, 2, 1, 0] rfl
set_option maxHeartbeats 4000000 in
set_option maxRecDepth 100000 in
theorem t_X6_finds_167 {p : Program} {l : Launch} {e : Env} {s : State} {m : MethodId} {args : Array Value} {below : List Frame} {meth : Method} {c : Code} {G : Gt} {post : Sg → Prop} (hc : o_Cx p s m args meth c G cX6_finds yX6_finds.cls 10) (hr : meth.sig.returnType = none) {K : Int32 → Int32 → Int32 → Int32 → Sg → Sg} {okK : Int32 → Int32 → Int32 → Int32 → Sg → Prop} (hK : ∀ (z4 : Int32) (z5 : Int32) (z6 : Int32) (z7 : Int32) (zs : Sg), okK z4 z5 z6 z7 zs → (∀ q : Sg, q = K z4 z5 z6 z7 zs → post q) → o_V p l e { frames := 1, cells := 0, slots := 0, locals := 21 } s m args below meth c (MQ below (va_Qv post (fun σ' t => o_W G σ' t.heap) (o_A G)) args s 0 0 (o_A G)) G 0 0 10 zs 60 [(0, .ref (gAd G 34)), (4, .int z4), (5, .int z5), (6, .int z6), (7, .int z7)] []) {x5 : Int32} {x6 : Int32} {x7 : Int32} {y0 : Int32} {σ : Sg} (hok : ok_X6_finds_167 okK x5 x6 x7 y0 σ) (hq : ∀ q : Sg, q = f_X6_finds_167 K x5 x6 x7 y0 σ → post q) : o_V p l e { frames := 1, cells := 0, slots := 0, locals := 21 } s m args below meth c (MQ below (va_Qv post (fun σ' t => o_W G σ' t.heap) (o_A G)) args s 0 0 (o_A G)) G 0 0 10 σ 167 [(0, .ref (gAd G 34)), (5, .int x5), (6, .int x6), (7, .int x7)] [.int y0] := by
  refine r_istore (pc := 167) (lv' := [(4, _), (0, _), (5, _), (6, _), (7, _)]) hc dX6_finds_167 (by decide) rfl ?_
  refine r_iload (pc := 169) hc 2 dX6_finds_169 rfl ?_
  refine r_sipush (pc := 171) (v := 254) hc dX6_finds_171 (by decide) ?_
  refine r_icmp_ne (pc := 174) (tgt := 181) hc dX6_finds_174 (by decide) (fun c174 => ?_) (fun c174 => ?_)
  · have hok := hok.2 c174
    have hq := o_qn hq c174
    refine r_iload (pc := 181) hc 2 dX6_finds_181 rfl ?_
    refine r_iconst (pc := 183) (v := 1) hc dX6_finds_183 rfl ?_
    refine r_iadd (pc := 184) hc dX6_finds_184 ?_
    exact o_V.sub (t_X6_finds_185 hc hr hK hok hq) [1, 0, 3, 4] rfl
  · have hok := hok.1 c174
    have hq := o_qp hq c174
    refine r_iconst (pc := 177) (v := 0) hc dX6_finds_177 rfl ?_
    refine r_goto (pc := 178) (tgt := 185) hc dX6_finds_178 (by decide) ?_
    exact o_V.sub (t_X6_finds_185 hc hr hK hok hq) [1, 0, 3, 4] rfl
set_option maxHeartbeats 4000000 in
set_option maxRecDepth 100000 in
theorem t_X6_finds_151 {p : Program} {l : Launch} {e : Env} {s : State} {m : MethodId} {args : Array Value} {below : List Frame} {meth : Method} {c : Code} {G : Gt} {post : Sg → Prop} (hc : o_Cx p s m args meth c G cX6_finds yX6_finds.cls 10) (hr : meth.sig.returnType = none) {K : Int32 → Int32 → Int32 → Int32 → Sg → Sg} {okK : Int32 → Int32 → Int32 → Int32 → Sg → Prop} (hK : ∀ (z4 : Int32) (z5 : Int32) (z6 : Int32) (z7 : Int32) (zs : Sg), okK z4 z5 z6 z7 zs → (∀ q : Sg, q = K z4 z5 z6 z7 zs → post q) → o_V p l e { frames := 1, cells := 0, slots := 0, locals := 21 } s m args below meth c (MQ below (va_Qv post (fun σ' t => o_W G σ' t.heap) (o_A G)) args s 0 0 (o_A G)) G 0 0 10 zs 60 [(0, .ref (gAd G 34)), (4, .int z4), (5, .int z5), (6, .int z6), (7, .int z7)] []) {x4 : Int32} {x5 : Int32} {x6 : Int32} {x7 : Int32} {σ : Sg} (hok : ok_X6_finds_151 okK x4 x5 x6 x7 σ) (hq : ∀ q : Sg, q = f_X6_finds_151 K x4 x5 x6 x7 σ → post q) : o_V p l e { frames := 1, cells := 0, slots := 0, locals := 21 } s m args below meth c (MQ below (va_Qv post (fun σ' t => o_W G σ' t.heap) (o_A G)) args s 0 0 (o_A G)) G 0 0 10 σ 151 [(0, .ref (gAd G 34)), (4, .int x4), (5, .int x5), (6, .int x6), (7, .int x7)] [] := by
  refine r_iload (pc := 151) hc 1 dX6_finds_151 rfl ?_
  refine r_sipush (pc := 153) (v := 271) hc dX6_finds_153 (by decide) ?_
  refine r_icmp_ne (pc := 156) (tgt := 163) hc dX6_finds_156 (by decide) (fun c156 => ?_) (fun c156 => ?_)
  · have hok := hok.2 c156
    have hq := o_qn hq c156
    refine r_iload (pc := 163) hc 1 dX6_finds_163 rfl ?_
    refine r_iconst (pc := 165) (v := 1) hc dX6_finds_165 rfl ?_
    refine r_iadd (pc := 166) hc dX6_finds_166 ?_
    exact o_V.sub (t_X6_finds_167 hc hr hK hok hq) [0, 2, 3, 4] rfl
  · have hok := hok.1 c156
    have hq := o_qp hq c156
    refine r_iconst (pc := 159) (v := 0) hc dX6_finds_159 rfl ?_
    refine r_goto (pc := 160) (tgt := 167) hc dX6_finds_160 (by decide) ?_
    exact o_V.sub (t_X6_finds_167 hc hr hK hok hq) [0, 2, 3, 4] rfl
set_option maxHeartbeats 4000000 in
set_option maxRecDepth 100000 in
theorem t_X6_finds_128 {p : Program} {l : Launch} {e : Env} {s : State} {m : MethodId} {args : Array Value} {below : List Frame} {meth : Method} {c : Code} {G : Gt} {post : Sg → Prop} (hc : o_Cx p s m args meth c G cX6_finds yX6_finds.cls 10) (hr : meth.sig.returnType = none) {K : Int32 → Int32 → Int32 → Int32 → Sg → Sg} {okK : Int32 → Int32 → Int32 → Int32 → Sg → Prop} (hK : ∀ (z4 : Int32) (z5 : Int32) (z6 : Int32) (z7 : Int32) (zs : Sg), okK z4 z5 z6 z7 zs → (∀ q : Sg, q = K z4 z5 z6 z7 zs → post q) → o_V p l e { frames := 1, cells := 0, slots := 0, locals := 21 } s m args below meth c (MQ below (va_Qv post (fun σ' t => o_W G σ' t.heap) (o_A G)) args s 0 0 (o_A G)) G 0 0 10 zs 60 [(0, .ref (gAd G 34)), (4, .int z4), (5, .int z5), (6, .int z6), (7, .int z7)] []) {x4 : Int32} {x5 : Int32} {x6 : Int32} {x7 : Int32} {y0 : Int32} {σ : Sg} (hok : ok_X6_finds_128 okK x4 x5 x6 x7 y0 σ) (hq : ∀ q : Sg, q = f_X6_finds_128 K x4 x5 x6 x7 y0 σ → post q) : o_V p l e { frames := 1, cells := 0, slots := 0, locals := 21 } s m args below meth c (MQ below (va_Qv post (fun σ' t => o_W G σ' t.heap) (o_A G)) args s 0 0 (o_A G)) G 0 0 10 σ 128 [(0, .ref (gAd G 34)), (4, .int x4), (5, .int x5), (6, .int x6), (7, .int x7)] [.int y0] := by
  refine r_istore (pc := 128) (lv' := [(8, _), (0, _), (4, _), (5, _), (6, _), (7, _)]) hc dX6_finds_128 (by decide) rfl ?_
  refine r_iload (pc := 130) hc 0 dX6_finds_130 rfl ?_
  refine r_aload_n (pc := 132) hc 1 dX6_finds_132 rfl rfl ?_
  refine r_geti (pc := 133) hc 6 kk6 (by decide) rfl (by decide) kF_X6_82 rfl rfl dX6_finds_133 ?_
  refine r_icmp_ge (pc := 136) (tgt := 151) hc dX6_finds_136 (by decide) (fun c136 => ?_) (fun c136 => ?_)
  · have hok := hok.1 c136
    have hq := o_qp hq c136
    exact o_V.sub (t_X6_finds_151 hc hr hK hok hq) [1, 2, 3, 4, 5] rfl
  · have hok := hok.2 c136
    have hq := o_qn hq c136
    refine r_aload_n (pc := 139) hc 1 dX6_finds_139 rfl rfl ?_
    refine r_iload (pc := 140) hc 0 dX6_finds_140 rfl ?_
    refine r_put (pc := 142) hc 6 kk6 (by decide) rfl (by decide) kF_X6_82 rfl rfl rfl rfl rfl dX6_finds_142 ?_
    refine r_aload_n (pc := 145) hc 1 dX6_finds_145 rfl rfl ?_
    refine r_iload (pc := 146) hc 5 dX6_finds_146 rfl ?_
    refine r_put (pc := 148) hc 5 kk6 (by decide) rfl (by decide) kF_X6_85 rfl rfl rfl rfl rfl dX6_finds_148 ?_
    exact o_V.sub (t_X6_finds_151 hc hr hK hok hq) [1, 2, 3, 4, 5] rfl
set_option maxHeartbeats 4000000 in
set_option maxRecDepth 100000 in
theorem t_X6_finds_102 {p : Program} {l : Launch} {e : Env} {s : State} {m : MethodId} {args : Array Value} {below : List Frame} {meth : Method} {c : Code} {G : Gt} {post : Sg → Prop} (hc : o_Cx p s m args meth c G cX6_finds yX6_finds.cls 10) (hr : meth.sig.returnType = none) {K : Int32 → Int32 → Int32 → Int32 → Sg → Sg} {okK : Int32 → Int32 → Int32 → Int32 → Sg → Prop} (hK : ∀ (z4 : Int32) (z5 : Int32) (z6 : Int32) (z7 : Int32) (zs : Sg), okK z4 z5 z6 z7 zs → (∀ q : Sg, q = K z4 z5 z6 z7 zs → post q) → o_V p l e { frames := 1, cells := 0, slots := 0, locals := 21 } s m args below meth c (MQ below (va_Qv post (fun σ' t => o_W G σ' t.heap) (o_A G)) args s 0 0 (o_A G)) G 0 0 10 zs 60 [(0, .ref (gAd G 34)), (4, .int z4), (5, .int z5), (6, .int z6), (7, .int z7)] []) {x4 : Int32} {x5 : Int32} {x6 : Int32} {x7 : Int32} {y0 : Int32} {σ : Sg} (hok : ok_X6_finds_102 okK x4 x5 x6 x7 y0 σ) (hq : ∀ q : Sg, q = f_X6_finds_102 K x4 x5 x6 x7 y0 σ → post q) : o_V p l e { frames := 1, cells := 0, slots := 0, locals := 21 } s m args below meth c (MQ below (va_Qv post (fun σ' t => o_W G σ' t.heap) (o_A G)) args s 0 0 (o_A G)) G 0 0 10 σ 102 [(0, .ref (gAd G 34)), (4, .int x4), (5, .int x5), (6, .int x6), (7, .int x7)] [.int y0] := by
  refine r_istore (pc := 102) (lv' := [(8, _), (0, _), (4, _), (5, _), (6, _), (7, _)]) hc dX6_finds_102 (by decide) rfl ?_
  refine r_iload (pc := 104) hc 4 dX6_finds_104 rfl ?_
  refine r_sipush (pc := 106) (v := 240) hc dX6_finds_106 (by decide) ?_
  obtain ⟨hs1, hok⟩ := hok
  refine r_callS_i (pc := 109) (as := [.int _, .int _]) hc (c_X6_nearer l G hs1) mS_X6_nearer kM_X6_88 ⟨Nat.le_of_ble_eq_true rfl, Nat.le_of_ble_eq_true rfl⟩ ⟨Nat.le_refl 0, Nat.le_refl 0⟩ rfl rfl (Nat.le_of_ble_eq_true rfl) dX6_finds_109 (fun r σ' h => ?_)
  obtain ⟨rfl, rfl⟩ := h
  refine r_istore (pc := 112) (lv' := [(9, _), (8, _), (0, _), (4, _), (5, _), (6, _), (7, _)]) hc dX6_finds_112 (by decide) rfl ?_
  refine r_iload (pc := 114) hc 0 dX6_finds_114 rfl ?_
  refine r_iload (pc := 116) hc 1 dX6_finds_116 rfl ?_
  refine r_icmp_le (pc := 118) (tgt := 126) hc dX6_finds_118 (by decide) (fun c118 => ?_) (fun c118 => ?_)
  · have hok := hok.1 c118
    have hq := o_qp hq c118
    refine r_iload (pc := 126) hc 1 dX6_finds_126 rfl ?_
    exact o_V.sub (t_X6_finds_128 hc hr hK hok hq) [2, 3, 4, 5, 6] rfl
  · have hok := hok.2 c118
    have hq := o_qn hq c118
    refine r_iload (pc := 121) hc 0 dX6_finds_121 rfl ?_
    refine r_goto (pc := 123) (tgt := 128) hc dX6_finds_123 (by decide) ?_
    exact o_V.sub (t_X6_finds_128 hc hr hK hok hq) [2, 3, 4, 5, 6] rfl
set_option maxHeartbeats 4000000 in
set_option maxRecDepth 100000 in
theorem t_X6_finds_60 {p : Program} {l : Launch} {e : Env} {s : State} {m : MethodId} {args : Array Value} {below : List Frame} {meth : Method} {c : Code} {G : Gt} {post : Sg → Prop}   (hc : o_Cx p s m args meth c G cX6_finds yX6_finds.cls 10) (hr : meth.sig.returnType = none) : ∀ (n : Nat) (x4 : Int32) (x5 : Int32) (x6 : Int32) (x7 : Int32) (σ : Sg) (hok : ok_X6_finds_60  n x4 x5 x6 x7 σ) (hq : ∀ q : Sg, q = f_X6_finds_60  n x4 x5 x6 x7 σ → post q), o_V p l e { frames := 1, cells := 0, slots := 0, locals := 21 } s m args below meth c (MQ below (va_Qv post (fun σ' t => o_W G σ' t.heap) (o_A G)) args s 0 0 (o_A G)) G 0 0 10 σ 60 [(0, .ref (gAd G 34)), (4, .int x4), (5, .int x5), (6, .int x6), (7, .int x7)] [] := by
  intro n
  induction n with
  | zero =>
    intro x4 x5 x6 x7 σ hok hq
    exact hok.elim
  | succ n ih =>
    intro x4 x5 x6 x7 σ hok hq
    refine r_iload (pc := 60) hc 4 dX6_finds_60 rfl ?_
    refine r_sipush (pc := 62) (v := 4080) hc dX6_finds_62 (by decide) ?_
    refine r_icmp_ge (pc := 65) (tgt := 211) hc dX6_finds_65 (by decide) (fun c65 => ?_) (fun c65 => ?_)
    · have hok := hok.1 c65
      have hq := o_qp hq c65
      exact r_vret hc hr dX6_finds_211 (hq _ rfl)
    · have hok := hok.2 c65
      have hq := o_qn hq c65
      refine r_iload (pc := 68) hc 1 dX6_finds_68 rfl ?_
      refine r_sipush (pc := 70) (v := 272) hc dX6_finds_70 (by decide) ?_
      obtain ⟨hs1, hok⟩ := hok
      refine r_callS_i (pc := 73) (as := [.int _, .int _]) hc (c_X6_nearer l G hs1) mS_X6_nearer kM_X6_88 ⟨Nat.le_of_ble_eq_true rfl, Nat.le_of_ble_eq_true rfl⟩ ⟨Nat.le_refl 0, Nat.le_refl 0⟩ rfl rfl (Nat.le_of_ble_eq_true rfl) dX6_finds_73 (fun r σ' h => ?_)
      obtain ⟨rfl, rfl⟩ := h
      refine r_istore (pc := 76) (lv' := [(8, _), (0, _), (4, _), (5, _), (6, _), (7, _)]) hc dX6_finds_76 (by decide) rfl ?_
      refine r_iload (pc := 78) hc 3 dX6_finds_78 rfl ?_
      refine r_sipush (pc := 80) (v := 255) hc dX6_finds_80 (by decide) ?_
      obtain ⟨hs2, hok⟩ := hok
      refine r_callS_i (pc := 83) (as := [.int _, .int _]) hc (c_X6_nearer l G hs2) mS_X6_nearer kM_X6_88 ⟨Nat.le_of_ble_eq_true rfl, Nat.le_of_ble_eq_true rfl⟩ ⟨Nat.le_refl 0, Nat.le_refl 0⟩ rfl rfl (Nat.le_of_ble_eq_true rfl) dX6_finds_83 (fun r σ' h => ?_)
      obtain ⟨rfl, rfl⟩ := h
      refine r_istore (pc := 86) (lv' := [(9, _), (8, _), (0, _), (4, _), (5, _), (6, _), (7, _)]) hc dX6_finds_86 (by decide) rfl ?_
      refine r_iload (pc := 88) hc 0 dX6_finds_88 rfl ?_
      refine r_iload (pc := 90) hc 1 dX6_finds_90 rfl ?_
      refine r_icmp_le (pc := 92) (tgt := 100) hc dX6_finds_92 (by decide) (fun c92 => ?_) (fun c92 => ?_)
      · have hok := hok.1 c92
        have hq := o_qp hq c92
        refine r_iload (pc := 100) hc 1 dX6_finds_100 rfl ?_
        exact o_V.sub (t_X6_finds_102 hc hr (K := f_X6_finds_60 n) (okK := ok_X6_finds_60 n) (fun z0 z1 z2 z3 zs h1 h2 => ih z0 z1 z2 z3 zs h1 h2) hok hq) [2, 3, 4, 5, 6] rfl
      · have hok := hok.2 c92
        have hq := o_qn hq c92
        refine r_iload (pc := 95) hc 0 dX6_finds_95 rfl ?_
        refine r_goto (pc := 97) (tgt := 102) hc dX6_finds_97 (by decide) ?_
        exact o_V.sub (t_X6_finds_102 hc hr (K := f_X6_finds_60 n) (okK := ok_X6_finds_60 n) (fun z0 z1 z2 z3 zs h1 h2 => ih z0 z1 z2 z3 zs h1 h2) hok hq) [2, 3, 4, 5, 6] rfl
set_option maxHeartbeats 4000000 in
set_option maxRecDepth 100000 in
theorem t_X6_finds_43 {p : Program} {l : Launch} {e : Env} {s : State} {m : MethodId} {args : Array Value} {below : List Frame} {meth : Method} {c : Code} {G : Gt} {post : Sg → Prop}   (hc : o_Cx p s m args meth c G cX6_finds yX6_finds.cls 10) (hr : meth.sig.returnType = none) {x4 : Int32} {x5 : Int32} {y0 : Int32} {σ : Sg} (hok : ok_X6_finds_43  x4 x5 y0 σ) (hq : ∀ q : Sg, q = f_X6_finds_43  x4 x5 y0 σ → post q) : o_V p l e { frames := 1, cells := 0, slots := 0, locals := 21 } s m args below meth c (MQ below (va_Qv post (fun σ' t => o_W G σ' t.heap) (o_A G)) args s 0 0 (o_A G)) G 0 0 10 σ 43 [(0, .ref (gAd G 34)), (4, .int x4), (5, .int x5)] [.int y0] := by
  refine r_istore (pc := 43) (lv' := [(6, _), (0, _), (4, _), (5, _)]) hc dX6_finds_43 (by decide) rfl ?_
  refine r_aload_n (pc := 45) hc 1 dX6_finds_45 rfl rfl ?_
  refine r_sipush (pc := 46) (v := 4080) hc dX6_finds_46 (by decide) ?_
  refine r_put (pc := 49) hc 6 kk6 (by decide) rfl (by decide) kF_X6_82 rfl rfl rfl rfl rfl dX6_finds_49 ?_
  refine r_aload_n (pc := 52) hc 1 dX6_finds_52 rfl rfl ?_
  refine r_iconst (pc := 53) (v := 0) hc dX6_finds_53 rfl ?_
  refine r_put (pc := 54) hc 5 kk6 (by decide) rfl (by decide) kF_X6_85 rfl rfl rfl rfl rfl dX6_finds_54 ?_
  refine r_iconst (pc := 57) (v := 0) hc dX6_finds_57 rfl ?_
  refine r_istore (pc := 58) (lv' := [(7, _), (6, _), (0, _), (4, _), (5, _)]) hc dX6_finds_58 (by decide) rfl ?_
  exact o_V.sub (t_X6_finds_60  hc hr oF _ _ _ _ _ hok hq) [2, 3, 4, 1, 0] rfl
set_option maxHeartbeats 4000000 in
set_option maxRecDepth 100000 in
theorem t_X6_finds_28 {p : Program} {l : Launch} {e : Env} {s : State} {m : MethodId} {args : Array Value} {below : List Frame} {meth : Method} {c : Code} {G : Gt} {post : Sg → Prop}   (hc : o_Cx p s m args meth c G cX6_finds yX6_finds.cls 10) (hr : meth.sig.returnType = none) {x3 : Int32} {x4 : Int32} {y0 : Int32} {σ : Sg} (hok : ok_X6_finds_28  x3 x4 y0 σ) (hq : ∀ q : Sg, q = f_X6_finds_28  x3 x4 y0 σ → post q) : o_V p l e { frames := 1, cells := 0, slots := 0, locals := 21 } s m args below meth c (MQ below (va_Qv post (fun σ' t => o_W G σ' t.heap) (o_A G)) args s 0 0 (o_A G)) G 0 0 10 σ 28 [(0, .ref (gAd G 34)), (3, .int x3), (4, .int x4)] [.int y0] := by
  refine r_istore (pc := 28) (lv' := [(5, _), (0, _), (3, _), (4, _)]) hc dX6_finds_28 (by decide) rfl ?_
  refine r_iload_n (pc := 30) hc 2 dX6_finds_30 rfl rfl ?_
  refine r_if_ne (pc := 31) (tgt := 38) hc dX6_finds_31 (by decide) (fun c31 => ?_) (fun c31 => ?_)
  · have hok := hok.2 c31
    have hq := o_qn hq c31
    refine r_sipush (pc := 38) (v := 240) hc dX6_finds_38 (by decide) ?_
    refine r_iload_n (pc := 41) hc 2 dX6_finds_41 rfl rfl ?_
    refine r_isub (pc := 42) hc dX6_finds_42 ?_
    exact o_V.sub (t_X6_finds_43  hc hr hok hq) [1, 3, 0] rfl
  · have hok := hok.1 c31
    have hq := o_qp hq c31
    refine r_iconst (pc := 34) (v := 0) hc dX6_finds_34 rfl ?_
    refine r_goto (pc := 35) (tgt := 43) hc dX6_finds_35 (by decide) ?_
    exact o_V.sub (t_X6_finds_43  hc hr hok hq) [1, 3, 0] rfl
set_option maxHeartbeats 4000000 in
set_option maxRecDepth 100000 in
theorem t_X6_finds_13 {p : Program} {l : Launch} {e : Env} {s : State} {m : MethodId} {args : Array Value} {below : List Frame} {meth : Method} {c : Code} {G : Gt} {post : Sg → Prop}   (hc : o_Cx p s m args meth c G cX6_finds yX6_finds.cls 10) (hr : meth.sig.returnType = none) {x2 : Int32} {x3 : Int32} {y0 : Int32} {σ : Sg} (hok : ok_X6_finds_13  x2 x3 y0 σ) (hq : ∀ q : Sg, q = f_X6_finds_13  x2 x3 y0 σ → post q) : o_V p l e { frames := 1, cells := 0, slots := 0, locals := 21 } s m args below meth c (MQ below (va_Qv post (fun σ' t => o_W G σ' t.heap) (o_A G)) args s 0 0 (o_A G)) G 0 0 10 σ 13 [(0, .ref (gAd G 34)), (2, .int x2), (3, .int x3)] [.int y0] := by
  refine r_istore (pc := 13) (lv' := [(4, _), (0, _), (2, _), (3, _)]) hc dX6_finds_13 (by decide) rfl ?_
  refine r_iload_n (pc := 15) hc 2 dX6_finds_15 rfl rfl ?_
  refine r_if_ne (pc := 16) (tgt := 23) hc dX6_finds_16 (by decide) (fun c16 => ?_) (fun c16 => ?_)
  · have hok := hok.2 c16
    have hq := o_qn hq c16
    refine r_sipush (pc := 23) (v := 255) hc dX6_finds_23 (by decide) ?_
    refine r_iload_n (pc := 26) hc 2 dX6_finds_26 rfl rfl ?_
    refine r_isub (pc := 27) hc dX6_finds_27 ?_
    exact o_V.sub (t_X6_finds_28  hc hr hok hq) [1, 3, 0] rfl
  · have hok := hok.1 c16
    have hq := o_qp hq c16
    refine r_iconst (pc := 19) (v := 0) hc dX6_finds_19 rfl ?_
    refine r_goto (pc := 20) (tgt := 28) hc dX6_finds_20 (by decide) ?_
    exact o_V.sub (t_X6_finds_28  hc hr hok hq) [1, 3, 0] rfl
set_option maxHeartbeats 4000000 in
set_option maxRecDepth 100000 in
theorem c_X6_finds (l : Launch) (G : Gt) {p1 : Int32} {p2 : Int32} {p3 : Int32}  {σ : Sg} (hok : ok_X6_finds p1 p2 p3 σ) : o_Cv l G yX6_finds cX6_finds 10 1 21 [.ref (gAd G 34), .int p1, .int p2, .int p3] σ (fun σ' => σ' = f_X6_finds p1 p2 p3 σ) := by
  refine o_Cv.of (by decide +kernel) (Nat.le_of_ble_eq_true rfl) ?_
  intro p e s m args below meth c hc hr
  have hq : ∀ q : Sg, q = f_X6_finds p1 p2 p3 σ → (fun σ' => σ' = f_X6_finds p1 p2 p3 σ) q := fun q h => h
  refine r_iload_n (pc := 0) hc 1 dX6_finds_0 rfl rfl ?_
  refine r_if_ne (pc := 1) (tgt := 8) hc dX6_finds_1 (by decide) (fun c1 => ?_) (fun c1 => ?_)
  · have hok := hok.2 c1
    have hq := o_qn hq c1
    refine r_sipush (pc := 8) (v := 272) hc dX6_finds_8 (by decide) ?_
    refine r_iload_n (pc := 11) hc 1 dX6_finds_11 rfl rfl ?_
    refine r_isub (pc := 12) hc dX6_finds_12 ?_
    exact o_V.sub (t_X6_finds_13  hc hr hok hq) [0, 2, 3] rfl
  · have hok := hok.1 c1
    have hq := o_qp hq c1
    refine r_iconst (pc := 4) (v := 0) hc dX6_finds_4 rfl ?_
    refine r_goto (pc := 5) (tgt := 13) hc dX6_finds_5 (by decide) ?_
    exact o_V.sub (t_X6_finds_13  hc hr hok hq) [0, 2, 3] rfl
noncomputable def f_X6_findsIn (p1 : Int32) (σ : Sg) : Sg :=
  let σ5 := f_X6_finds (f_X6_corrected 0 p1 σ) (f_X6_corrected 1 p1 σ) (f_X6_corrected 2 p1 σ) σ
  let σ6 := pu σ5 34 9 ((σ5 34 9) + 1)
  σ6
def ok_X6_findsIn (p1 : Int32) (σ : Sg) : Prop :=
  (ok_X6_corrected 0 p1 σ) ∧ ((ok_X6_corrected 1 p1 σ) ∧ ((ok_X6_corrected 2 p1 σ) ∧ ((ok_X6_finds (f_X6_corrected 0 p1 σ) (f_X6_corrected 1 p1 σ) (f_X6_corrected 2 p1 σ) σ) ∧ (let σ5 := f_X6_finds (f_X6_corrected 0 p1 σ) (f_X6_corrected 1 p1 σ) (f_X6_corrected 2 p1 σ) σ
  let σ6 := pu σ5 34 9 ((σ5 34 9) + 1)
  True))))
set_option maxHeartbeats 4000000 in
set_option maxRecDepth 100000 in
theorem c_X6_findsIn (l : Launch) (G : Gt) {p1 : Int32}  {σ : Sg} (hok : ok_X6_findsIn p1 σ) : o_Cv l G yX6_findsIn cX6_findsIn 2 2 50 [.ref (gAd G 34), .int p1] σ (fun σ' => σ' = f_X6_findsIn p1 σ) := by
  refine o_Cv.of (by decide +kernel) (Nat.le_of_ble_eq_true rfl) ?_
  intro p e s m args below meth c hc hr
  have hq : ∀ q : Sg, q = f_X6_findsIn p1 σ → (fun σ' => σ' = f_X6_findsIn p1 σ) q := fun q h => h
  refine r_aload_n (pc := 0) hc 0 dX6_findsIn_0 rfl rfl ?_
  refine r_aload_n (pc := 1) hc 0 dX6_findsIn_1 rfl rfl ?_
  refine r_iconst (pc := 2) (v := 0) hc dX6_findsIn_2 rfl ?_
  refine r_iload_n (pc := 3) hc 1 dX6_findsIn_3 rfl rfl ?_
  obtain ⟨hs1, hok⟩ := hok
  refine r_callV_i (pc := 4) (as := [.int _, .int _]) hc (c_X6_corrected l G hs1) kk6 (by decide) rfl mV_X6_corrected kM_X6_104 ⟨Nat.le_of_ble_eq_true rfl, Nat.le_of_ble_eq_true rfl⟩ ⟨Nat.le_refl 0, Nat.le_refl 0⟩ rfl rfl (Nat.le_of_ble_eq_true rfl) dX6_findsIn_4 (fun r σ' h => ?_)
  obtain ⟨rfl, rfl⟩ := h
  refine r_aload_n (pc := 7) hc 0 dX6_findsIn_7 rfl rfl ?_
  refine r_iconst (pc := 8) (v := 1) hc dX6_findsIn_8 rfl ?_
  refine r_iload_n (pc := 9) hc 1 dX6_findsIn_9 rfl rfl ?_
  obtain ⟨hs2, hok⟩ := hok
  refine r_callV_i (pc := 10) (as := [.int _, .int _]) hc (c_X6_corrected l G hs2) kk6 (by decide) rfl mV_X6_corrected kM_X6_104 ⟨Nat.le_of_ble_eq_true rfl, Nat.le_of_ble_eq_true rfl⟩ ⟨Nat.le_refl 0, Nat.le_refl 0⟩ rfl rfl (Nat.le_of_ble_eq_true rfl) dX6_findsIn_10 (fun r σ' h => ?_)
  obtain ⟨rfl, rfl⟩ := h
  refine r_aload_n (pc := 13) hc 0 dX6_findsIn_13 rfl rfl ?_
  refine r_iconst (pc := 14) (v := 2) hc dX6_findsIn_14 rfl ?_
  refine r_iload_n (pc := 15) hc 1 dX6_findsIn_15 rfl rfl ?_
  obtain ⟨hs3, hok⟩ := hok
  refine r_callV_i (pc := 16) (as := [.int _, .int _]) hc (c_X6_corrected l G hs3) kk6 (by decide) rfl mV_X6_corrected kM_X6_104 ⟨Nat.le_of_ble_eq_true rfl, Nat.le_of_ble_eq_true rfl⟩ ⟨Nat.le_refl 0, Nat.le_refl 0⟩ rfl rfl (Nat.le_of_ble_eq_true rfl) dX6_findsIn_16 (fun r σ' h => ?_)
  obtain ⟨rfl, rfl⟩ := h
  obtain ⟨hs4, hok⟩ := hok
  refine r_callV_v (pc := 19) (as := [.int _, .int _, .int _]) hc (c_X6_finds l G hs4) kk6 (by decide) rfl mV_X6_finds kM_X6_91 ⟨Nat.le_of_ble_eq_true rfl, Nat.le_of_ble_eq_true rfl⟩ ⟨Nat.le_refl 0, Nat.le_refl 0⟩ rfl rfl (Nat.le_of_ble_eq_true rfl) dX6_findsIn_19 (fun σ' h => ?_)
  subst h
  refine r_aload_n (pc := 22) hc 0 dX6_findsIn_22 rfl rfl ?_
  refine r_dup (pc := 23) hc dX6_findsIn_23 rfl ?_
  refine r_geti (pc := 24) hc 9 kk6 (by decide) rfl (by decide) kF_X6_107 rfl rfl dX6_findsIn_24 ?_
  refine r_iconst (pc := 27) (v := 1) hc dX6_findsIn_27 rfl ?_
  refine r_iadd (pc := 28) hc dX6_findsIn_28 ?_
  refine r_put (pc := 29) hc 9 kk6 (by decide) rfl (by decide) kF_X6_107 rfl rfl rfl rfl rfl dX6_findsIn_29 ?_
  exact r_vret hc hr dX6_findsIn_32 (hq _ rfl)
noncomputable def f_X6_fitting_45  (y0 : Int32) (y1 : Int32) (σ : Sg) : Int32 :=
  (f_X6_rest (y1 + y0) 64 σ)
def ok_X6_fitting_45  (y0 : Int32) (y1 : Int32) (σ : Sg) : Prop :=
  (ok_X6_rest (y1 + y0) 64 σ) ∧ (True)
noncomputable def f_X6_fitting  (σ : Sg) : Int32 :=
  o_ite ((f_X6_rest (((σ 34 5) / 1020) - (σ 35 2)) 4 σ) = 2) (
    (-1)) (
    o_ite ((f_X6_rest (((σ 34 5) / 1020) - (σ 35 2)) 4 σ) = 3) (
      f_X6_fitting_45 (-1) (σ 35 2) σ) (
      f_X6_fitting_45 (f_X6_rest (((σ 34 5) / 1020) - (σ 35 2)) 4 σ) (σ 35 2) σ))
def ok_X6_fitting  (σ : Sg) : Prop :=
  (ok_X6_rest (((σ 34 5) / 1020) - (σ 35 2)) 4 σ) ∧ ((((f_X6_rest (((σ 34 5) / 1020) - (σ 35 2)) 4 σ) = 2) →
    True) ∧ (¬ ((f_X6_rest (((σ 34 5) / 1020) - (σ 35 2)) 4 σ) = 2) →
    (((f_X6_rest (((σ 34 5) / 1020) - (σ 35 2)) 4 σ) = 3) →
      ok_X6_fitting_45 (-1) (σ 35 2) σ) ∧ (¬ ((f_X6_rest (((σ 34 5) / 1020) - (σ 35 2)) 4 σ) = 3) →
      ok_X6_fitting_45 (f_X6_rest (((σ 34 5) / 1020) - (σ 35 2)) 4 σ) (σ 35 2) σ)))
set_option maxHeartbeats 4000000 in
set_option maxRecDepth 100000 in
theorem t_X6_fitting_45 {p : Program} {l : Launch} {e : Env} {s : State} {m : MethodId} {args : Array Value} {below : List Frame} {meth : Method} {c : Code} {G : Gt} {post : Int32 → Sg → Prop}   (hc : o_Cx p s m args meth c G cX6_fitting yX6_fitting.cls 2) (hr : meth.sig.returnType = (some .int)) {y0 : Int32} {y1 : Int32} {σ : Sg} (hok : ok_X6_fitting_45  y0 y1 σ) (hq : ∀ q : Int32, q = f_X6_fitting_45  y0 y1 σ → post q σ) : o_V p l e { frames := 1, cells := 0, slots := 0, locals := 22 } s m args below meth c (MQ below (va_Qi post (fun σ' t => o_W G σ' t.heap) (o_A G)) args s 0 0 (o_A G)) G 0 0 2 σ 45 [] [.int y0, .int y1] := by
  refine r_iadd (pc := 45) hc dX6_fitting_45 ?_
  refine r_bipush (pc := 46) (v := 64) hc dX6_fitting_46 (by decide) ?_
  obtain ⟨hs1, hok⟩ := hok
  refine r_callS_i (pc := 48) (as := [.int _, .int _]) hc (c_X6_rest l G hs1) mS_X6_rest kM_X6_28 ⟨Nat.le_of_ble_eq_true rfl, Nat.le_of_ble_eq_true rfl⟩ ⟨Nat.le_refl 0, Nat.le_refl 0⟩ rfl rfl (Nat.le_of_ble_eq_true rfl) dX6_fitting_48 (fun r σ' h => ?_)
  obtain ⟨rfl, rfl⟩ := h
  exact r_iret hc hr rfl dX6_fitting_51 (hq _ rfl)
set_option maxHeartbeats 4000000 in
set_option maxRecDepth 100000 in
theorem c_X6_fitting (l : Launch) (G : Gt)   {σ : Sg} (hok : ok_X6_fitting  σ) : o_Ci l G yX6_fitting cX6_fitting 2 (some .int) 1 22 [.ref (gAd G 34)] σ (fun r σ' => r = f_X6_fitting  σ ∧ σ' = σ) := by
  refine o_Ci.of (by decide +kernel) (Nat.le_of_ble_eq_true rfl) ?_
  intro p e s m args below meth c hc hr
  have hq : ∀ q : Int32, q = f_X6_fitting  σ → (fun r σ' => r = f_X6_fitting  σ ∧ σ' = σ) q σ := fun q h => ⟨h, rfl⟩
  refine r_aload_n (pc := 0) hc 0 dX6_fitting_0 rfl rfl ?_
  refine r_geti (pc := 1) hc 5 kk6 (by decide) rfl (by decide) kF_X6_85 rfl rfl dX6_fitting_1 ?_
  refine r_sipush (pc := 4) (v := 1020) hc dX6_fitting_4 (by decide) ?_
  refine r_idiv (pc := 7) hc dX6_fitting_7 (by decide) ?_
  refine r_aload_n (pc := 8) hc 0 dX6_fitting_8 rfl rfl ?_
  refine r_getr (pc := 9) (j := 35) hc 0 kk6 (by decide) rfl (by decide) kF_X6_7 rfl rfl dX6_fitting_9 ?_
  refine r_iconst (pc := 12) (v := 2) hc dX6_fitting_12 rfl ?_
  refine r_iald (pc := 13) (k := 2) hc (by decide) rfl (by unfold vp_in; decide) (by decide) dX6_fitting_13 ?_
  refine r_isub (pc := 14) hc dX6_fitting_14 ?_
  refine r_iconst (pc := 15) (v := 4) hc dX6_fitting_15 rfl ?_
  obtain ⟨hs1, hok⟩ := hok
  refine r_callS_i (pc := 16) (as := [.int _, .int _]) hc (c_X6_rest l G hs1) mS_X6_rest kM_X6_28 ⟨Nat.le_of_ble_eq_true rfl, Nat.le_of_ble_eq_true rfl⟩ ⟨Nat.le_refl 0, Nat.le_refl 0⟩ rfl rfl (Nat.le_of_ble_eq_true rfl) dX6_fitting_16 (fun r σ' h => ?_)
  obtain ⟨rfl, rfl⟩ := h
  refine r_istore_n (pc := 19) (lv' := [(1, _), (0, _)]) hc dX6_fitting_19 rfl (by decide) rfl ?_
  refine r_iload_n (pc := 20) hc 0 dX6_fitting_20 rfl rfl ?_
  refine r_iconst (pc := 21) (v := 2) hc dX6_fitting_21 rfl ?_
  refine r_icmp_ne (pc := 22) (tgt := 29) hc dX6_fitting_22 (by decide) (fun c22 => ?_) (fun c22 => ?_)
  · have hok := hok.2 c22
    have hq := o_qn hq c22
    refine r_aload_n (pc := 29) hc 1 dX6_fitting_29 rfl rfl ?_
    refine r_getr (pc := 30) (j := 35) hc 0 kk6 (by decide) rfl (by decide) kF_X6_7 rfl rfl dX6_fitting_30 ?_
    refine r_iconst (pc := 33) (v := 2) hc dX6_fitting_33 rfl ?_
    refine r_iald (pc := 34) (k := 2) hc (by decide) rfl (by unfold vp_in; decide) (by decide) dX6_fitting_34 ?_
    refine r_iload_n (pc := 35) hc 0 dX6_fitting_35 rfl rfl ?_
    refine r_iconst (pc := 36) (v := 3) hc dX6_fitting_36 rfl ?_
    refine r_icmp_ne (pc := 37) (tgt := 44) hc dX6_fitting_37 (by decide) (fun c37 => ?_) (fun c37 => ?_)
    · have hok := hok.2 c37
      have hq := o_qn hq c37
      refine r_iload_n (pc := 44) hc 0 dX6_fitting_44 rfl rfl ?_
      exact o_V.sub (t_X6_fitting_45  hc hr hok hq) [] rfl
    · have hok := hok.1 c37
      have hq := o_qp hq c37
      refine r_iconst (pc := 40) (v := (-1)) hc dX6_fitting_40 rfl ?_
      refine r_goto (pc := 41) (tgt := 45) hc dX6_fitting_41 (by decide) ?_
      exact o_V.sub (t_X6_fitting_45  hc hr hok hq) [] rfl
  · have hok := hok.1 c22
    have hq := o_qp hq c22
    refine r_iconst (pc := 25) (v := (-1)) hc dX6_fitting_25 rfl ?_
    refine r_goto (pc := 26) (tgt := 51) hc dX6_fitting_26 (by decide) ?_
    exact r_iret hc hr rfl dX6_fitting_51 (hq _ rfl)
noncomputable def f_X6_forget  (σ : Sg) : Int32 × Sg :=
  let q2 := f_X6_puts 5 (-1) σ
  let σ3 := pu q2.2 35 6 0
  o_ite (q2.1 = (-1)) (
    (0, σ3)) (
    (1, σ3))
def ok_X6_forget  (σ : Sg) : Prop :=
  (ok_X6_puts 5 (-1) σ) ∧ (let q2 := f_X6_puts 5 (-1) σ
  let σ3 := pu q2.2 35 6 0
  ((q2.1 = (-1)) →
    True) ∧ (¬ (q2.1 = (-1)) →
    True))
set_option maxHeartbeats 4000000 in
set_option maxRecDepth 100000 in
theorem c_X6_forget (l : Launch) (G : Gt)   {σ : Sg} (hok : ok_X6_forget  σ) : o_Ci l G yX6_forget cX6_forget 2 (some .int) 2 44 [.ref (gAd G 34)] σ (fun r σ' => r = (f_X6_forget  σ).1 ∧ σ' = (f_X6_forget  σ).2) := by
  refine o_Ci.of (by decide +kernel) (Nat.le_of_ble_eq_true rfl) ?_
  intro p e s m args below meth c hc hr
  have hq : ∀ q : Int32 × Sg, q = f_X6_forget  σ → (fun r σ' => r = (f_X6_forget  σ).1 ∧ σ' = (f_X6_forget  σ).2) q.1 q.2 := fun q h => ⟨congrArg Prod.fst h, congrArg Prod.snd h⟩
  refine r_aload_n (pc := 0) hc 0 dX6_forget_0 rfl rfl ?_
  refine r_iconst (pc := 1) (v := 5) hc dX6_forget_1 rfl ?_
  refine r_iconst (pc := 2) (v := (-1)) hc dX6_forget_2 rfl ?_
  obtain ⟨hs1, hok⟩ := hok
  refine r_callV_i (pc := 3) (as := [.int _, .int _]) hc (c_X6_puts l G hs1) kk6 (by decide) rfl mV_X6_puts kM_X6_52 ⟨Nat.le_of_ble_eq_true rfl, Nat.le_of_ble_eq_true rfl⟩ ⟨Nat.le_refl 0, Nat.le_refl 0⟩ rfl rfl (Nat.le_of_ble_eq_true rfl) dX6_forget_3 (fun r σ' h => ?_)
  obtain ⟨rfl, rfl⟩ := h
  refine r_istore_n (pc := 6) (lv' := [(1, _), (0, _)]) hc dX6_forget_6 rfl (by decide) rfl ?_
  refine r_aload_n (pc := 7) hc 1 dX6_forget_7 rfl rfl ?_
  refine r_getr (pc := 8) (j := 35) hc 0 kk6 (by decide) rfl (by decide) kF_X6_7 rfl rfl dX6_forget_8 ?_
  refine r_bipush (pc := 11) (v := 6) hc dX6_forget_11 (by decide) ?_
  refine r_iconst (pc := 13) (v := 0) hc dX6_forget_13 rfl ?_
  refine r_iast (pc := 14) (k := 6) hc (by decide) rfl (by unfold vp_in; decide) (by decide) dX6_forget_14 ?_
  refine r_iload_n (pc := 15) hc 0 dX6_forget_15 rfl rfl ?_
  refine r_iconst (pc := 16) (v := (-1)) hc dX6_forget_16 rfl ?_
  refine r_icmp_ne (pc := 17) (tgt := 24) hc dX6_forget_17 (by decide) (fun c17 => ?_) (fun c17 => ?_)
  · have hok := hok.2 c17
    have hq := o_qn hq c17
    refine r_iconst (pc := 24) (v := 1) hc dX6_forget_24 rfl ?_
    exact r_iret hc hr rfl dX6_forget_25 (hq (_, _) rfl)
  · have hok := hok.1 c17
    have hq := o_qp hq c17
    refine r_iconst (pc := 20) (v := 0) hc dX6_forget_20 rfl ?_
    refine r_goto (pc := 21) (tgt := 25) hc dX6_forget_21 (by decide) ?_
    exact r_iret hc hr rfl dX6_forget_25 (hq (_, _) rfl)
noncomputable def f_X6_found (p1 : Int32) (p2 : Int32) (p3 : Int32) (p4 : Int32) (σ : Sg) : Int32 × Sg :=
  o_ite ((f_X6_in p1 0 271 σ) = 0) (
    ((-1), σ)) (
    o_ite ((f_X6_in p2 0 254 σ) = 0) (
      ((-1), σ)) (
      o_ite ((f_X6_in p3 0 239 σ) = 0) (
        ((-1), σ)) (
        o_ite ((f_X6_in p4 0 1 σ) = 0) (
          ((-1), σ)) (
          let σ6 := f_X6_finds p1 p2 p3 σ
          o_ite (p4 = 0) (
            ((σ6 34 5), σ6)) (
            ((σ6 34 6), σ6))))))
def ok_X6_found (p1 : Int32) (p2 : Int32) (p3 : Int32) (p4 : Int32) (σ : Sg) : Prop :=
  (ok_X6_in p1 0 271 σ) ∧ ((((f_X6_in p1 0 271 σ) = 0) →
    True) ∧ (¬ ((f_X6_in p1 0 271 σ) = 0) →
    (ok_X6_in p2 0 254 σ) ∧ ((((f_X6_in p2 0 254 σ) = 0) →
      True) ∧ (¬ ((f_X6_in p2 0 254 σ) = 0) →
      (ok_X6_in p3 0 239 σ) ∧ ((((f_X6_in p3 0 239 σ) = 0) →
        True) ∧ (¬ ((f_X6_in p3 0 239 σ) = 0) →
        (ok_X6_in p4 0 1 σ) ∧ ((((f_X6_in p4 0 1 σ) = 0) →
          True) ∧ (¬ ((f_X6_in p4 0 1 σ) = 0) →
          (ok_X6_finds p1 p2 p3 σ) ∧ (let σ6 := f_X6_finds p1 p2 p3 σ
          ((p4 = 0) →
            True) ∧ (¬ (p4 = 0) →
            True))))))))))
set_option maxHeartbeats 4000000 in
set_option maxRecDepth 100000 in
theorem c_X6_found (l : Launch) (G : Gt) {p1 : Int32} {p2 : Int32} {p3 : Int32} {p4 : Int32}  {σ : Sg} (hok : ok_X6_found p1 p2 p3 p4 σ) : o_Ci l G yX6_found cX6_found 5 (some .int) 2 50 [.ref (gAd G 34), .int p1, .int p2, .int p3, .int p4] σ (fun r σ' => r = (f_X6_found p1 p2 p3 p4 σ).1 ∧ σ' = (f_X6_found p1 p2 p3 p4 σ).2) := by
  refine o_Ci.of (by decide +kernel) (Nat.le_of_ble_eq_true rfl) ?_
  intro p e s m args below meth c hc hr
  have hq : ∀ q : Int32 × Sg, q = f_X6_found p1 p2 p3 p4 σ → (fun r σ' => r = (f_X6_found p1 p2 p3 p4 σ).1 ∧ σ' = (f_X6_found p1 p2 p3 p4 σ).2) q.1 q.2 := fun q h => ⟨congrArg Prod.fst h, congrArg Prod.snd h⟩
  refine r_iload_n (pc := 0) hc 1 dX6_found_0 rfl rfl ?_
  refine r_iconst (pc := 1) (v := 0) hc dX6_found_1 rfl ?_
  refine r_sipush (pc := 2) (v := 271) hc dX6_found_2 (by decide) ?_
  obtain ⟨hs1, hok⟩ := hok
  refine r_callS_i (pc := 5) (as := [.int _, .int _, .int _]) hc (c_X6_in l G hs1) mS_X6_in kM_X6_32 ⟨Nat.le_of_ble_eq_true rfl, Nat.le_of_ble_eq_true rfl⟩ ⟨Nat.le_refl 0, Nat.le_refl 0⟩ rfl rfl (Nat.le_of_ble_eq_true rfl) dX6_found_5 (fun r σ' h => ?_)
  obtain ⟨rfl, rfl⟩ := h
  refine r_if_eq (pc := 8) (tgt := 43) hc dX6_found_8 (by decide) (fun c8 => ?_) (fun c8 => ?_)
  · have hok := hok.1 c8
    have hq := o_qp hq c8
    refine r_iconst (pc := 43) (v := (-1)) hc dX6_found_43 rfl ?_
    exact r_iret hc hr rfl dX6_found_44 (hq (_, _) rfl)
  · have hok := hok.2 c8
    have hq := o_qn hq c8
    refine r_iload_n (pc := 11) hc 2 dX6_found_11 rfl rfl ?_
    refine r_iconst (pc := 12) (v := 0) hc dX6_found_12 rfl ?_
    refine r_sipush (pc := 13) (v := 254) hc dX6_found_13 (by decide) ?_
    obtain ⟨hs2, hok⟩ := hok
    refine r_callS_i (pc := 16) (as := [.int _, .int _, .int _]) hc (c_X6_in l G hs2) mS_X6_in kM_X6_32 ⟨Nat.le_of_ble_eq_true rfl, Nat.le_of_ble_eq_true rfl⟩ ⟨Nat.le_refl 0, Nat.le_refl 0⟩ rfl rfl (Nat.le_of_ble_eq_true rfl) dX6_found_16 (fun r σ' h => ?_)
    obtain ⟨rfl, rfl⟩ := h
    refine r_if_eq (pc := 19) (tgt := 43) hc dX6_found_19 (by decide) (fun c19 => ?_) (fun c19 => ?_)
    · have hok := hok.1 c19
      have hq := o_qp hq c19
      refine r_iconst (pc := 43) (v := (-1)) hc dX6_found_43 rfl ?_
      exact r_iret hc hr rfl dX6_found_44 (hq (_, _) rfl)
    · have hok := hok.2 c19
      have hq := o_qn hq c19
      refine r_iload_n (pc := 22) hc 3 dX6_found_22 rfl rfl ?_
      refine r_iconst (pc := 23) (v := 0) hc dX6_found_23 rfl ?_
      refine r_sipush (pc := 24) (v := 239) hc dX6_found_24 (by decide) ?_
      obtain ⟨hs3, hok⟩ := hok
      refine r_callS_i (pc := 27) (as := [.int _, .int _, .int _]) hc (c_X6_in l G hs3) mS_X6_in kM_X6_32 ⟨Nat.le_of_ble_eq_true rfl, Nat.le_of_ble_eq_true rfl⟩ ⟨Nat.le_refl 0, Nat.le_refl 0⟩ rfl rfl (Nat.le_of_ble_eq_true rfl) dX6_found_27 (fun r σ' h => ?_)
      obtain ⟨rfl, rfl⟩ := h
      refine r_if_eq (pc := 30) (tgt := 43) hc dX6_found_30 (by decide) (fun c30 => ?_) (fun c30 => ?_)
      · have hok := hok.1 c30
        have hq := o_qp hq c30
        refine r_iconst (pc := 43) (v := (-1)) hc dX6_found_43 rfl ?_
        exact r_iret hc hr rfl dX6_found_44 (hq (_, _) rfl)
      · have hok := hok.2 c30
        have hq := o_qn hq c30
        refine r_iload (pc := 33) hc 4 dX6_found_33 rfl ?_
        refine r_iconst (pc := 35) (v := 0) hc dX6_found_35 rfl ?_
        refine r_iconst (pc := 36) (v := 1) hc dX6_found_36 rfl ?_
        obtain ⟨hs4, hok⟩ := hok
        refine r_callS_i (pc := 37) (as := [.int _, .int _, .int _]) hc (c_X6_in l G hs4) mS_X6_in kM_X6_32 ⟨Nat.le_of_ble_eq_true rfl, Nat.le_of_ble_eq_true rfl⟩ ⟨Nat.le_refl 0, Nat.le_refl 0⟩ rfl rfl (Nat.le_of_ble_eq_true rfl) dX6_found_37 (fun r σ' h => ?_)
        obtain ⟨rfl, rfl⟩ := h
        refine r_if_ne (pc := 40) (tgt := 45) hc dX6_found_40 (by decide) (fun c40 => ?_) (fun c40 => ?_)
        · have hok := hok.2 c40
          have hq := o_qn hq c40
          refine r_aload_n (pc := 45) hc 0 dX6_found_45 rfl rfl ?_
          refine r_iload_n (pc := 46) hc 1 dX6_found_46 rfl rfl ?_
          refine r_iload_n (pc := 47) hc 2 dX6_found_47 rfl rfl ?_
          refine r_iload_n (pc := 48) hc 3 dX6_found_48 rfl rfl ?_
          obtain ⟨hs5, hok⟩ := hok
          refine r_callV_v (pc := 49) (as := [.int _, .int _, .int _]) hc (c_X6_finds l G hs5) kk6 (by decide) rfl mV_X6_finds kM_X6_91 ⟨Nat.le_of_ble_eq_true rfl, Nat.le_of_ble_eq_true rfl⟩ ⟨Nat.le_refl 0, Nat.le_refl 0⟩ rfl rfl (Nat.le_of_ble_eq_true rfl) dX6_found_49 (fun σ' h => ?_)
          subst h
          refine r_iload (pc := 52) hc 4 dX6_found_52 rfl ?_
          refine r_if_ne (pc := 54) (tgt := 64) hc dX6_found_54 (by decide) (fun c54 => ?_) (fun c54 => ?_)
          · have hok := hok.2 c54
            have hq := o_qn hq c54
            refine r_aload_n (pc := 64) hc 0 dX6_found_64 rfl rfl ?_
            refine r_geti (pc := 65) hc 6 kk6 (by decide) rfl (by decide) kF_X6_82 rfl rfl dX6_found_65 ?_
            exact r_iret hc hr rfl dX6_found_68 (hq (_, _) rfl)
          · have hok := hok.1 c54
            have hq := o_qp hq c54
            refine r_aload_n (pc := 57) hc 0 dX6_found_57 rfl rfl ?_
            refine r_geti (pc := 58) hc 5 kk6 (by decide) rfl (by decide) kF_X6_85 rfl rfl dX6_found_58 ?_
            refine r_goto (pc := 61) (tgt := 68) hc dX6_found_61 (by decide) ?_
            exact r_iret hc hr rfl dX6_found_68 (hq (_, _) rfl)
        · have hok := hok.1 c40
          have hq := o_qp hq c40
          refine r_iconst (pc := 43) (v := (-1)) hc dX6_found_43 rfl ?_
          exact r_iret hc hr rfl dX6_found_44 (hq (_, _) rfl)
noncomputable def f_X6_isCoarseApart  (σ : Sg) : Int32 :=
  let r3 := f_X6_off (f_X6_coarse σ) (((σ 34 5) * 64) / 4080) 64 σ
  o_ite (r3 ≤ (σ 35 8)) (
    0) (
    1)
def ok_X6_isCoarseApart  (σ : Sg) : Prop :=
  (ok_X6_coarse σ) ∧ ((ok_X6_off (f_X6_coarse σ) (((σ 34 5) * 64) / 4080) 64 σ) ∧ (let r3 := f_X6_off (f_X6_coarse σ) (((σ 34 5) * 64) / 4080) 64 σ
  ((r3 ≤ (σ 35 8)) →
    True) ∧ (¬ (r3 ≤ (σ 35 8)) →
    True)))
set_option maxHeartbeats 4000000 in
set_option maxRecDepth 100000 in
theorem c_X6_isCoarseApart (l : Launch) (G : Gt)   {σ : Sg} (hok : ok_X6_isCoarseApart  σ) : o_Ci l G yX6_isCoarseApart cX6_isCoarseApart 1 (some .boolean) 2 45 [.ref (gAd G 34)] σ (fun r σ' => r = f_X6_isCoarseApart  σ ∧ σ' = σ) := by
  refine o_Ci.of (by decide +kernel) (Nat.le_of_ble_eq_true rfl) ?_
  intro p e s m args below meth c hc hr
  have hq : ∀ q : Int32, q = f_X6_isCoarseApart  σ → (fun r σ' => r = f_X6_isCoarseApart  σ ∧ σ' = σ) q σ := fun q h => ⟨h, rfl⟩
  refine r_aload_n (pc := 0) hc 0 dX6_isCoarseApart_0 rfl rfl ?_
  obtain ⟨hs1, hok⟩ := hok
  refine r_callV_i (pc := 1) (as := []) hc (c_X6_coarse l G hs1) kk6 (by decide) rfl mV_X6_coarse kM_X6_59 ⟨Nat.le_of_ble_eq_true rfl, Nat.le_of_ble_eq_true rfl⟩ ⟨Nat.le_refl 0, Nat.le_refl 0⟩ rfl rfl (Nat.le_of_ble_eq_true rfl) dX6_isCoarseApart_1 (fun r σ' h => ?_)
  obtain ⟨rfl, rfl⟩ := h
  refine r_aload_n (pc := 4) hc 0 dX6_isCoarseApart_4 rfl rfl ?_
  refine r_geti (pc := 5) hc 5 kk6 (by decide) rfl (by decide) kF_X6_85 rfl rfl dX6_isCoarseApart_5 ?_
  refine r_bipush (pc := 8) (v := 64) hc dX6_isCoarseApart_8 (by decide) ?_
  refine r_imul (pc := 10) hc dX6_isCoarseApart_10 ?_
  refine r_sipush (pc := 11) (v := 4080) hc dX6_isCoarseApart_11 (by decide) ?_
  refine r_idiv (pc := 14) hc dX6_isCoarseApart_14 (by decide) ?_
  refine r_bipush (pc := 15) (v := 64) hc dX6_isCoarseApart_15 (by decide) ?_
  obtain ⟨hs2, hok⟩ := hok
  refine r_callS_i (pc := 17) (as := [.int _, .int _, .int _]) hc (c_X6_off l G hs2) mS_X6_off kM_X6_119 ⟨Nat.le_of_ble_eq_true rfl, Nat.le_of_ble_eq_true rfl⟩ ⟨Nat.le_refl 0, Nat.le_refl 0⟩ rfl rfl (Nat.le_of_ble_eq_true rfl) dX6_isCoarseApart_17 (fun r σ' h => ?_)
  obtain ⟨rfl, rfl⟩ := h
  refine r_aload_n (pc := 20) hc 0 dX6_isCoarseApart_20 rfl rfl ?_
  refine r_getr (pc := 21) (j := 35) hc 0 kk6 (by decide) rfl (by decide) kF_X6_7 rfl rfl dX6_isCoarseApart_21 ?_
  refine r_bipush (pc := 24) (v := 8) hc dX6_isCoarseApart_24 (by decide) ?_
  refine r_iald (pc := 26) (k := 8) hc (by decide) rfl (by unfold vp_in; decide) (by decide) dX6_isCoarseApart_26 ?_
  refine r_icmp_le (pc := 27) (tgt := 34) hc dX6_isCoarseApart_27 (by decide) (fun c27 => ?_) (fun c27 => ?_)
  · have hok := hok.1 c27
    have hq := o_qp hq c27
    refine r_iconst (pc := 34) (v := 0) hc dX6_isCoarseApart_34 rfl ?_
    exact r_iret hc hr rfl dX6_isCoarseApart_35 (hq _ rfl)
  · have hok := hok.2 c27
    have hq := o_qn hq c27
    refine r_iconst (pc := 30) (v := 1) hc dX6_isCoarseApart_30 rfl ?_
    refine r_goto (pc := 31) (tgt := 35) hc dX6_isCoarseApart_31 (by decide) ?_
    exact r_iret hc hr rfl dX6_isCoarseApart_35 (hq _ rfl)
noncomputable def f_X6_isSetting (p0 : Int32) (p1 : Int32) (σ : Sg) : Int32 :=
  o_ite (p0 = 0) (
    (f_X6_in p1 0 40 σ)) (
    o_ite (p0 = 1) (
      (f_X6_in p1 0 32 σ)) (
      o_ite (p0 = 2) (
        (f_X6_in p1 1 4080 σ)) (
        o_ite (p0 = 3) (
          (f_X6_in p1 (-31) 31 σ)) (
          0))))
def ok_X6_isSetting (p0 : Int32) (p1 : Int32) (σ : Sg) : Prop :=
  ((p0 = 0) →
    (ok_X6_in p1 0 40 σ) ∧ ((narrow .boolean (.int (f_X6_in p1 0 40 σ)) = .int (f_X6_in p1 0 40 σ)) ∧ (True))) ∧ (¬ (p0 = 0) →
    ((p0 = 1) →
      (ok_X6_in p1 0 32 σ) ∧ ((narrow .boolean (.int (f_X6_in p1 0 32 σ)) = .int (f_X6_in p1 0 32 σ)) ∧ (True))) ∧ (¬ (p0 = 1) →
      ((p0 = 2) →
        (ok_X6_in p1 1 4080 σ) ∧ ((narrow .boolean (.int (f_X6_in p1 1 4080 σ)) = .int (f_X6_in p1 1 4080 σ)) ∧ (True))) ∧ (¬ (p0 = 2) →
        ((p0 = 3) →
          (ok_X6_in p1 (-31) 31 σ) ∧ ((narrow .boolean (.int (f_X6_in p1 (-31) 31 σ)) = .int (f_X6_in p1 (-31) 31 σ)) ∧ (True))) ∧ (¬ (p0 = 3) →
          True))))
set_option maxHeartbeats 4000000 in
set_option maxRecDepth 100000 in
theorem c_X6_isSetting (l : Launch) (G : Gt) {p0 : Int32} {p1 : Int32}  {σ : Sg} (hok : ok_X6_isSetting p0 p1 σ) : o_Ci l G yX6_isSetting cX6_isSetting 2 (some .boolean) 1 22 [.int p0, .int p1] σ (fun r σ' => r = f_X6_isSetting p0 p1 σ ∧ σ' = σ) := by
  refine o_Ci.of (by decide +kernel) (Nat.le_of_ble_eq_true rfl) ?_
  intro p e s m args below meth c hc hr
  have hq : ∀ q : Int32, q = f_X6_isSetting p0 p1 σ → (fun r σ' => r = f_X6_isSetting p0 p1 σ ∧ σ' = σ) q σ := fun q h => ⟨h, rfl⟩
  refine r_iload_n (pc := 0) hc 0 dX6_isSetting_0 rfl rfl ?_
  refine o_cs (p0 = 0) (fun s1_0 => ?_) (fun s1_0 => ?_)
  · have hok := hok.1 s1_0
    have hq := o_qp hq s1_0
    refine r_tabIn (pc := 1) (tgt := 32) (k := 0) (off := 31) hc dX6_isSetting_1 s1_0 (by decide) (by decide) (by decide) (by decide) ?_
    refine r_iload_n (pc := 32) hc 1 dX6_isSetting_32 rfl rfl ?_
    refine r_iconst (pc := 33) (v := 0) hc dX6_isSetting_33 rfl ?_
    refine r_bipush (pc := 34) (v := 40) hc dX6_isSetting_34 (by decide) ?_
    obtain ⟨hs1, hok⟩ := hok
    refine r_callS_i (pc := 36) (as := [.int _, .int _, .int _]) hc (c_X6_in l G hs1) mS_X6_in kM_X6_32 ⟨Nat.le_of_ble_eq_true rfl, Nat.le_of_ble_eq_true rfl⟩ ⟨Nat.le_refl 0, Nat.le_refl 0⟩ rfl rfl (Nat.le_of_ble_eq_true rfl) dX6_isSetting_36 (fun r σ' h => ?_)
    obtain ⟨rfl, rfl⟩ := h
    obtain ⟨hs2, hok⟩ := hok
    exact r_iret hc hr hs2 dX6_isSetting_39 (hq _ rfl)
  have hok := hok.2 s1_0
  have hq := o_qn hq s1_0
  refine o_cs (p0 = 1) (fun s1_1 => ?_) (fun s1_1 => ?_)
  · have hok := hok.1 s1_1
    have hq := o_qp hq s1_1
    refine r_tabIn (pc := 1) (tgt := 40) (k := 1) (off := 39) hc dX6_isSetting_1 s1_1 (by decide) (by decide) (by decide) (by decide) ?_
    refine r_iload_n (pc := 40) hc 1 dX6_isSetting_40 rfl rfl ?_
    refine r_iconst (pc := 41) (v := 0) hc dX6_isSetting_41 rfl ?_
    refine r_bipush (pc := 42) (v := 32) hc dX6_isSetting_42 (by decide) ?_
    obtain ⟨hs3, hok⟩ := hok
    refine r_callS_i (pc := 44) (as := [.int _, .int _, .int _]) hc (c_X6_in l G hs3) mS_X6_in kM_X6_32 ⟨Nat.le_of_ble_eq_true rfl, Nat.le_of_ble_eq_true rfl⟩ ⟨Nat.le_refl 0, Nat.le_refl 0⟩ rfl rfl (Nat.le_of_ble_eq_true rfl) dX6_isSetting_44 (fun r σ' h => ?_)
    obtain ⟨rfl, rfl⟩ := h
    obtain ⟨hs4, hok⟩ := hok
    exact r_iret hc hr hs4 dX6_isSetting_47 (hq _ rfl)
  have hok := hok.2 s1_1
  have hq := o_qn hq s1_1
  refine o_cs (p0 = 2) (fun s1_2 => ?_) (fun s1_2 => ?_)
  · have hok := hok.1 s1_2
    have hq := o_qp hq s1_2
    refine r_tabIn (pc := 1) (tgt := 48) (k := 2) (off := 47) hc dX6_isSetting_1 s1_2 (by decide) (by decide) (by decide) (by decide) ?_
    refine r_iload_n (pc := 48) hc 1 dX6_isSetting_48 rfl rfl ?_
    refine r_iconst (pc := 49) (v := 1) hc dX6_isSetting_49 rfl ?_
    refine r_sipush (pc := 50) (v := 4080) hc dX6_isSetting_50 (by decide) ?_
    obtain ⟨hs5, hok⟩ := hok
    refine r_callS_i (pc := 53) (as := [.int _, .int _, .int _]) hc (c_X6_in l G hs5) mS_X6_in kM_X6_32 ⟨Nat.le_of_ble_eq_true rfl, Nat.le_of_ble_eq_true rfl⟩ ⟨Nat.le_refl 0, Nat.le_refl 0⟩ rfl rfl (Nat.le_of_ble_eq_true rfl) dX6_isSetting_53 (fun r σ' h => ?_)
    obtain ⟨rfl, rfl⟩ := h
    obtain ⟨hs6, hok⟩ := hok
    exact r_iret hc hr hs6 dX6_isSetting_56 (hq _ rfl)
  have hok := hok.2 s1_2
  have hq := o_qn hq s1_2
  refine o_cs (p0 = 3) (fun s1_3 => ?_) (fun s1_3 => ?_)
  · have hok := hok.1 s1_3
    have hq := o_qp hq s1_3
    refine r_tabIn (pc := 1) (tgt := 57) (k := 3) (off := 56) hc dX6_isSetting_1 s1_3 (by decide) (by decide) (by decide) (by decide) ?_
    refine r_iload_n (pc := 57) hc 1 dX6_isSetting_57 rfl rfl ?_
    refine r_bipush (pc := 58) (v := (-31)) hc dX6_isSetting_58 (by decide) ?_
    refine r_bipush (pc := 60) (v := 31) hc dX6_isSetting_60 (by decide) ?_
    obtain ⟨hs7, hok⟩ := hok
    refine r_callS_i (pc := 62) (as := [.int _, .int _, .int _]) hc (c_X6_in l G hs7) mS_X6_in kM_X6_32 ⟨Nat.le_of_ble_eq_true rfl, Nat.le_of_ble_eq_true rfl⟩ ⟨Nat.le_refl 0, Nat.le_refl 0⟩ rfl rfl (Nat.le_of_ble_eq_true rfl) dX6_isSetting_62 (fun r σ' h => ?_)
    obtain ⟨rfl, rfl⟩ := h
    obtain ⟨hs8, hok⟩ := hok
    exact r_iret hc hr hs8 dX6_isSetting_65 (hq _ rfl)
  have hok := hok.2 s1_3
  have hq := o_qn hq s1_3
  have e1_0 := lv_neT s1_0 (show (0 : Int32).toInt = 0 by decide)
  have e1_1 := lv_neT s1_1 (show (1 : Int32).toInt = 1 by decide)
  have e1_2 := lv_neT s1_2 (show (2 : Int32).toInt = 2 by decide)
  have e1_3 := lv_neT s1_3 (show (3 : Int32).toInt = 3 by decide)
  refine r_tabOut (pc := 1) (tgt := 66) hc dX6_isSetting_1 (by omega) (by decide) ?_
  refine r_iconst (pc := 66) (v := 0) hc dX6_isSetting_66 rfl ?_
  exact r_iret hc hr rfl dX6_isSetting_67 (hq _ rfl)
noncomputable def f_X6_readingAt (p1 : Int32) (p2 : Int32) (σ : Sg) : Int32 :=
  let r5 := f_X6_rest ((p2 + (σ 35 ((11 + (8 * p1)) + (p2 / 510)).toNatClampNeg)) + (σ 35 (35 + p1).toNatClampNeg)) (f_X6_lengthOf p1 σ) σ
  r5
def ok_X6_readingAt (p1 : Int32) (p2 : Int32) (σ : Sg) : Prop :=
  (vp_in ((11 + (8 * p1)) + (p2 / 510)) 62) ∧ ((vp_in (35 + p1) 62) ∧ ((ok_X6_lengthOf p1 σ) ∧ ((ok_X6_rest ((p2 + (σ 35 ((11 + (8 * p1)) + (p2 / 510)).toNatClampNeg)) + (σ 35 (35 + p1).toNatClampNeg)) (f_X6_lengthOf p1 σ) σ) ∧ (let r5 := f_X6_rest ((p2 + (σ 35 ((11 + (8 * p1)) + (p2 / 510)).toNatClampNeg)) + (σ 35 (35 + p1).toNatClampNeg)) (f_X6_lengthOf p1 σ) σ
  True))))
set_option maxHeartbeats 4000000 in
set_option maxRecDepth 100000 in
theorem c_X6_readingAt (l : Launch) (G : Gt) {p1 : Int32} {p2 : Int32}  {σ : Sg} (hok : ok_X6_readingAt p1 p2 σ) : o_Ci l G yX6_readingAt cX6_readingAt 3 (some .int) 1 22 [.ref (gAd G 34), .int p1, .int p2] σ (fun r σ' => r = f_X6_readingAt p1 p2 σ ∧ σ' = σ) := by
  refine o_Ci.of (by decide +kernel) (Nat.le_of_ble_eq_true rfl) ?_
  intro p e s m args below meth c hc hr
  have hq : ∀ q : Int32, q = f_X6_readingAt p1 p2 σ → (fun r σ' => r = f_X6_readingAt p1 p2 σ ∧ σ' = σ) q σ := fun q h => ⟨h, rfl⟩
  refine r_iload_n (pc := 0) hc 2 dX6_readingAt_0 rfl rfl ?_
  refine r_aload_n (pc := 1) hc 0 dX6_readingAt_1 rfl rfl ?_
  refine r_getr (pc := 2) (j := 35) hc 0 kk6 (by decide) rfl (by decide) kF_X6_7 rfl rfl dX6_readingAt_2 ?_
  refine r_bipush (pc := 5) (v := 11) hc dX6_readingAt_5 (by decide) ?_
  refine r_bipush (pc := 7) (v := 8) hc dX6_readingAt_7 (by decide) ?_
  refine r_iload_n (pc := 9) hc 1 dX6_readingAt_9 rfl rfl ?_
  refine r_imul (pc := 10) hc dX6_readingAt_10 ?_
  refine r_iadd (pc := 11) hc dX6_readingAt_11 ?_
  refine r_iload_n (pc := 12) hc 2 dX6_readingAt_12 rfl rfl ?_
  refine r_sipush (pc := 13) (v := 510) hc dX6_readingAt_13 (by decide) ?_
  refine r_idiv (pc := 16) hc dX6_readingAt_16 (by decide) ?_
  refine r_iadd (pc := 17) hc dX6_readingAt_17 ?_
  obtain ⟨hs1, hok⟩ := hok
  refine r_iald (pc := 18) (k := _) hc (by decide) rfl hs1 rfl dX6_readingAt_18 ?_
  refine r_iadd (pc := 19) hc dX6_readingAt_19 ?_
  refine r_aload_n (pc := 20) hc 0 dX6_readingAt_20 rfl rfl ?_
  refine r_getr (pc := 21) (j := 35) hc 0 kk6 (by decide) rfl (by decide) kF_X6_7 rfl rfl dX6_readingAt_21 ?_
  refine r_bipush (pc := 24) (v := 35) hc dX6_readingAt_24 (by decide) ?_
  refine r_iload_n (pc := 26) hc 1 dX6_readingAt_26 rfl rfl ?_
  refine r_iadd (pc := 27) hc dX6_readingAt_27 ?_
  obtain ⟨hs2, hok⟩ := hok
  refine r_iald (pc := 28) (k := _) hc (by decide) rfl hs2 rfl dX6_readingAt_28 ?_
  refine r_iadd (pc := 29) hc dX6_readingAt_29 ?_
  refine r_iload_n (pc := 30) hc 1 dX6_readingAt_30 rfl rfl ?_
  obtain ⟨hs3, hok⟩ := hok
  refine r_callS_i (pc := 31) (as := [.int _]) hc (c_X6_lengthOf l G hs3) mS_X6_lengthOf kM_X6_75 ⟨Nat.le_of_ble_eq_true rfl, Nat.le_of_ble_eq_true rfl⟩ ⟨Nat.le_refl 0, Nat.le_refl 0⟩ rfl rfl (Nat.le_of_ble_eq_true rfl) dX6_readingAt_31 (fun r σ' h => ?_)
  obtain ⟨rfl, rfl⟩ := h
  obtain ⟨hs4, hok⟩ := hok
  refine r_callS_i (pc := 34) (as := [.int _, .int _]) hc (c_X6_rest l G hs4) mS_X6_rest kM_X6_28 ⟨Nat.le_of_ble_eq_true rfl, Nat.le_of_ble_eq_true rfl⟩ ⟨Nat.le_refl 0, Nat.le_refl 0⟩ rfl rfl (Nat.le_of_ble_eq_true rfl) dX6_readingAt_34 (fun r σ' h => ?_)
  obtain ⟨rfl, rfl⟩ := h
  exact r_iret hc hr rfl dX6_readingAt_37 (hq _ rfl)
noncomputable def f_X6_tooHigh (p1 : Int32) (σ : Sg) : Int32 :=
  let r6 := f_X6_rest ((f_X6_readingAt p1 (f_X6_angle σ) σ) - (f_X6_angle σ)) (f_X6_lengthOf p1 σ) σ
  o_ite ((2 * r6) ≤ (f_X6_lengthOf p1 σ)) (
    r6) (
    (r6 - (f_X6_lengthOf p1 σ)))
def ok_X6_tooHigh (p1 : Int32) (σ : Sg) : Prop :=
  (ok_X6_angle σ) ∧ ((ok_X6_readingAt p1 (f_X6_angle σ) σ) ∧ ((ok_X6_angle σ) ∧ ((ok_X6_lengthOf p1 σ) ∧ ((ok_X6_rest ((f_X6_readingAt p1 (f_X6_angle σ) σ) - (f_X6_angle σ)) (f_X6_lengthOf p1 σ) σ) ∧ (let r6 := f_X6_rest ((f_X6_readingAt p1 (f_X6_angle σ) σ) - (f_X6_angle σ)) (f_X6_lengthOf p1 σ) σ
  (ok_X6_lengthOf p1 σ) ∧ ((((2 * r6) ≤ (f_X6_lengthOf p1 σ)) →
    True) ∧ (¬ ((2 * r6) ≤ (f_X6_lengthOf p1 σ)) →
    (ok_X6_lengthOf p1 σ) ∧ (True))))))))
set_option maxHeartbeats 4000000 in
set_option maxRecDepth 100000 in
theorem c_X6_tooHigh (l : Launch) (G : Gt) {p1 : Int32}  {σ : Sg} (hok : ok_X6_tooHigh p1 σ) : o_Ci l G yX6_tooHigh cX6_tooHigh 3 (some .int) 2 44 [.ref (gAd G 34), .int p1] σ (fun r σ' => r = f_X6_tooHigh p1 σ ∧ σ' = σ) := by
  refine o_Ci.of (by decide +kernel) (Nat.le_of_ble_eq_true rfl) ?_
  intro p e s m args below meth c hc hr
  have hq : ∀ q : Int32, q = f_X6_tooHigh p1 σ → (fun r σ' => r = f_X6_tooHigh p1 σ ∧ σ' = σ) q σ := fun q h => ⟨h, rfl⟩
  refine r_aload_n (pc := 0) hc 0 dX6_tooHigh_0 rfl rfl ?_
  refine r_iload_n (pc := 1) hc 1 dX6_tooHigh_1 rfl rfl ?_
  refine r_aload_n (pc := 2) hc 0 dX6_tooHigh_2 rfl rfl ?_
  obtain ⟨hs1, hok⟩ := hok
  refine r_callV_i (pc := 3) (as := []) hc (c_X6_angle l G hs1) kk6 (by decide) rfl mV_X6_angle kM_X6_55 ⟨Nat.le_of_ble_eq_true rfl, Nat.le_of_ble_eq_true rfl⟩ ⟨Nat.le_refl 0, Nat.le_refl 0⟩ rfl rfl (Nat.le_of_ble_eq_true rfl) dX6_tooHigh_3 (fun r σ' h => ?_)
  obtain ⟨rfl, rfl⟩ := h
  obtain ⟨hs2, hok⟩ := hok
  refine r_callV_i (pc := 6) (as := [.int _, .int _]) hc (c_X6_readingAt l G hs2) kk6 (by decide) rfl mV_X6_readingAt kM_X6_79 ⟨Nat.le_of_ble_eq_true rfl, Nat.le_of_ble_eq_true rfl⟩ ⟨Nat.le_refl 0, Nat.le_refl 0⟩ rfl rfl (Nat.le_of_ble_eq_true rfl) dX6_tooHigh_6 (fun r σ' h => ?_)
  obtain ⟨rfl, rfl⟩ := h
  refine r_aload_n (pc := 9) hc 0 dX6_tooHigh_9 rfl rfl ?_
  obtain ⟨hs3, hok⟩ := hok
  refine r_callV_i (pc := 10) (as := []) hc (c_X6_angle l G hs3) kk6 (by decide) rfl mV_X6_angle kM_X6_55 ⟨Nat.le_of_ble_eq_true rfl, Nat.le_of_ble_eq_true rfl⟩ ⟨Nat.le_refl 0, Nat.le_refl 0⟩ rfl rfl (Nat.le_of_ble_eq_true rfl) dX6_tooHigh_10 (fun r σ' h => ?_)
  obtain ⟨rfl, rfl⟩ := h
  refine r_isub (pc := 13) hc dX6_tooHigh_13 ?_
  refine r_iload_n (pc := 14) hc 1 dX6_tooHigh_14 rfl rfl ?_
  obtain ⟨hs4, hok⟩ := hok
  refine r_callS_i (pc := 15) (as := [.int _]) hc (c_X6_lengthOf l G hs4) mS_X6_lengthOf kM_X6_75 ⟨Nat.le_of_ble_eq_true rfl, Nat.le_of_ble_eq_true rfl⟩ ⟨Nat.le_refl 0, Nat.le_refl 0⟩ rfl rfl (Nat.le_of_ble_eq_true rfl) dX6_tooHigh_15 (fun r σ' h => ?_)
  obtain ⟨rfl, rfl⟩ := h
  obtain ⟨hs5, hok⟩ := hok
  refine r_callS_i (pc := 18) (as := [.int _, .int _]) hc (c_X6_rest l G hs5) mS_X6_rest kM_X6_28 ⟨Nat.le_of_ble_eq_true rfl, Nat.le_of_ble_eq_true rfl⟩ ⟨Nat.le_refl 0, Nat.le_refl 0⟩ rfl rfl (Nat.le_of_ble_eq_true rfl) dX6_tooHigh_18 (fun r σ' h => ?_)
  obtain ⟨rfl, rfl⟩ := h
  refine r_istore_n (pc := 21) (lv' := [(2, _), (0, _), (1, _)]) hc dX6_tooHigh_21 rfl (by decide) rfl ?_
  refine r_iconst (pc := 22) (v := 2) hc dX6_tooHigh_22 rfl ?_
  refine r_iload_n (pc := 23) hc 0 dX6_tooHigh_23 rfl rfl ?_
  refine r_imul (pc := 24) hc dX6_tooHigh_24 ?_
  refine r_iload_n (pc := 25) hc 2 dX6_tooHigh_25 rfl rfl ?_
  obtain ⟨hs7, hok⟩ := hok
  refine r_callS_i (pc := 26) (as := [.int _]) hc (c_X6_lengthOf l G hs7) mS_X6_lengthOf kM_X6_75 ⟨Nat.le_of_ble_eq_true rfl, Nat.le_of_ble_eq_true rfl⟩ ⟨Nat.le_refl 0, Nat.le_refl 0⟩ rfl rfl (Nat.le_of_ble_eq_true rfl) dX6_tooHigh_26 (fun r σ' h => ?_)
  obtain ⟨rfl, rfl⟩ := h
  refine r_icmp_le (pc := 29) (tgt := 41) hc dX6_tooHigh_29 (by decide) (fun c29 => ?_) (fun c29 => ?_)
  · have hok := hok.1 c29
    have hq := o_qp hq c29
    refine r_iload_n (pc := 41) hc 0 dX6_tooHigh_41 rfl rfl ?_
    exact r_iret hc hr rfl dX6_tooHigh_42 (hq _ rfl)
  · have hok := hok.2 c29
    have hq := o_qn hq c29
    refine r_iload_n (pc := 32) hc 0 dX6_tooHigh_32 rfl rfl ?_
    refine r_iload_n (pc := 33) hc 2 dX6_tooHigh_33 rfl rfl ?_
    obtain ⟨hs8, hok⟩ := hok
    refine r_callS_i (pc := 34) (as := [.int _]) hc (c_X6_lengthOf l G hs8) mS_X6_lengthOf kM_X6_75 ⟨Nat.le_of_ble_eq_true rfl, Nat.le_of_ble_eq_true rfl⟩ ⟨Nat.le_refl 0, Nat.le_refl 0⟩ rfl rfl (Nat.le_of_ble_eq_true rfl) dX6_tooHigh_34 (fun r σ' h => ?_)
    obtain ⟨rfl, rfl⟩ := h
    refine r_isub (pc := 37) hc dX6_tooHigh_37 ?_
    refine r_goto (pc := 38) (tgt := 42) hc dX6_tooHigh_38 (by decide) ?_
    exact r_iret hc hr rfl dX6_tooHigh_42 (hq _ rfl)
noncomputable def f_X6_learn  (σ : Sg) : Int32 × Sg :=
  o_ite ((f_X6_isCorrection (f_X6_tooHigh 0 σ) σ) = 0) (
    ((-2), σ)) (
    o_ite ((f_X6_isCorrection (f_X6_tooHigh 1 σ) σ) = 0) (
      ((-2), σ)) (
      o_ite ((f_X6_isCorrection (f_X6_tooHigh 2 σ) σ) = 0) (
        ((-2), σ)) (
        let σ8 := f_X6_saves σ
        let v10 := (((38 : Int32) + ((8 : Int32) * 0)) + ((f_X6_angle σ8) / 510))
        o_ite ((σ8 35 v10.toNatClampNeg) = (f_X6_tooHigh 0 σ8)) (
          let σ48 := pu σ8 35 v10.toNatClampNeg (f_X6_tooHigh 0 σ8)
          let v50 := (((38 : Int32) + ((8 : Int32) * 1)) + ((f_X6_angle σ48) / 510))
          o_ite ((σ48 35 v50.toNatClampNeg) = (f_X6_tooHigh 1 σ48)) (
            let σ68 := pu σ48 35 v50.toNatClampNeg (f_X6_tooHigh 1 σ48)
            let v70 := (((38 : Int32) + ((8 : Int32) * 2)) + ((f_X6_angle σ68) / 510))
            o_ite ((σ68 35 v70.toNatClampNeg) = (f_X6_tooHigh 2 σ68)) (
              let σ78 := pu σ68 35 v70.toNatClampNeg (f_X6_tooHigh 2 σ68)
              (((((((0 : Int32) + 0) : Int32) + 0) : Int32) + 0), σ78)) (
              let σ75 := pu σ68 35 v70.toNatClampNeg (f_X6_tooHigh 2 σ68)
              (((((((0 : Int32) + 0) : Int32) + 0) : Int32) + 1), σ75))) (
            let σ55 := pu σ48 35 v50.toNatClampNeg (f_X6_tooHigh 1 σ48)
            let v57 := (((38 : Int32) + ((8 : Int32) * 2)) + ((f_X6_angle σ55) / 510))
            o_ite ((σ55 35 v57.toNatClampNeg) = (f_X6_tooHigh 2 σ55)) (
              let σ65 := pu σ55 35 v57.toNatClampNeg (f_X6_tooHigh 2 σ55)
              (((((((0 : Int32) + 0) : Int32) + 1) : Int32) + 0), σ65)) (
              let σ62 := pu σ55 35 v57.toNatClampNeg (f_X6_tooHigh 2 σ55)
              (((((((0 : Int32) + 0) : Int32) + 1) : Int32) + 1), σ62)))) (
          let σ15 := pu σ8 35 v10.toNatClampNeg (f_X6_tooHigh 0 σ8)
          let v17 := (((38 : Int32) + ((8 : Int32) * 1)) + ((f_X6_angle σ15) / 510))
          o_ite ((σ15 35 v17.toNatClampNeg) = (f_X6_tooHigh 1 σ15)) (
            let σ35 := pu σ15 35 v17.toNatClampNeg (f_X6_tooHigh 1 σ15)
            let v37 := (((38 : Int32) + ((8 : Int32) * 2)) + ((f_X6_angle σ35) / 510))
            o_ite ((σ35 35 v37.toNatClampNeg) = (f_X6_tooHigh 2 σ35)) (
              let σ45 := pu σ35 35 v37.toNatClampNeg (f_X6_tooHigh 2 σ35)
              (((((((0 : Int32) + 1) : Int32) + 0) : Int32) + 0), σ45)) (
              let σ42 := pu σ35 35 v37.toNatClampNeg (f_X6_tooHigh 2 σ35)
              (((((((0 : Int32) + 1) : Int32) + 0) : Int32) + 1), σ42))) (
            let σ22 := pu σ15 35 v17.toNatClampNeg (f_X6_tooHigh 1 σ15)
            let v24 := (((38 : Int32) + ((8 : Int32) * 2)) + ((f_X6_angle σ22) / 510))
            o_ite ((σ22 35 v24.toNatClampNeg) = (f_X6_tooHigh 2 σ22)) (
              let σ32 := pu σ22 35 v24.toNatClampNeg (f_X6_tooHigh 2 σ22)
              (((((((0 : Int32) + 1) : Int32) + 1) : Int32) + 0), σ32)) (
              let σ29 := pu σ22 35 v24.toNatClampNeg (f_X6_tooHigh 2 σ22)
              (((((((0 : Int32) + 1) : Int32) + 1) : Int32) + 1), σ29)))))))
def ok_X6_learn  (σ : Sg) : Prop :=
  (ok_X6_tooHigh 0 σ) ∧ ((ok_X6_isCorrection (f_X6_tooHigh 0 σ) σ) ∧ ((((f_X6_isCorrection (f_X6_tooHigh 0 σ) σ) = 0) →
    True) ∧ (¬ ((f_X6_isCorrection (f_X6_tooHigh 0 σ) σ) = 0) →
    (ok_X6_tooHigh 1 σ) ∧ ((ok_X6_isCorrection (f_X6_tooHigh 1 σ) σ) ∧ ((((f_X6_isCorrection (f_X6_tooHigh 1 σ) σ) = 0) →
      True) ∧ (¬ ((f_X6_isCorrection (f_X6_tooHigh 1 σ) σ) = 0) →
      (ok_X6_tooHigh 2 σ) ∧ ((ok_X6_isCorrection (f_X6_tooHigh 2 σ) σ) ∧ ((((f_X6_isCorrection (f_X6_tooHigh 2 σ) σ) = 0) →
        True) ∧ (¬ ((f_X6_isCorrection (f_X6_tooHigh 2 σ) σ) = 0) →
        (ok_X6_saves σ) ∧ (let σ8 := f_X6_saves σ
        (ok_X6_angle σ8) ∧ (let v10 := (((38 : Int32) + ((8 : Int32) * 0)) + ((f_X6_angle σ8) / 510))
        (vp_in v10 62) ∧ ((ok_X6_tooHigh 0 σ8) ∧ ((((σ8 35 v10.toNatClampNeg) = (f_X6_tooHigh 0 σ8)) →
          (ok_X6_tooHigh 0 σ8) ∧ ((vp_in v10 62) ∧ (let σ48 := pu σ8 35 v10.toNatClampNeg (f_X6_tooHigh 0 σ8)
          (ok_X6_angle σ48) ∧ (let v50 := (((38 : Int32) + ((8 : Int32) * 1)) + ((f_X6_angle σ48) / 510))
          (vp_in v50 62) ∧ ((ok_X6_tooHigh 1 σ48) ∧ ((((σ48 35 v50.toNatClampNeg) = (f_X6_tooHigh 1 σ48)) →
            (ok_X6_tooHigh 1 σ48) ∧ ((vp_in v50 62) ∧ (let σ68 := pu σ48 35 v50.toNatClampNeg (f_X6_tooHigh 1 σ48)
            (ok_X6_angle σ68) ∧ (let v70 := (((38 : Int32) + ((8 : Int32) * 2)) + ((f_X6_angle σ68) / 510))
            (vp_in v70 62) ∧ ((ok_X6_tooHigh 2 σ68) ∧ ((((σ68 35 v70.toNatClampNeg) = (f_X6_tooHigh 2 σ68)) →
              (ok_X6_tooHigh 2 σ68) ∧ ((vp_in v70 62) ∧ (let σ78 := pu σ68 35 v70.toNatClampNeg (f_X6_tooHigh 2 σ68)
              True))) ∧ (¬ ((σ68 35 v70.toNatClampNeg) = (f_X6_tooHigh 2 σ68)) →
              (ok_X6_tooHigh 2 σ68) ∧ ((vp_in v70 62) ∧ (let σ75 := pu σ68 35 v70.toNatClampNeg (f_X6_tooHigh 2 σ68)
              True))))))))) ∧ (¬ ((σ48 35 v50.toNatClampNeg) = (f_X6_tooHigh 1 σ48)) →
            (ok_X6_tooHigh 1 σ48) ∧ ((vp_in v50 62) ∧ (let σ55 := pu σ48 35 v50.toNatClampNeg (f_X6_tooHigh 1 σ48)
            (ok_X6_angle σ55) ∧ (let v57 := (((38 : Int32) + ((8 : Int32) * 2)) + ((f_X6_angle σ55) / 510))
            (vp_in v57 62) ∧ ((ok_X6_tooHigh 2 σ55) ∧ ((((σ55 35 v57.toNatClampNeg) = (f_X6_tooHigh 2 σ55)) →
              (ok_X6_tooHigh 2 σ55) ∧ ((vp_in v57 62) ∧ (let σ65 := pu σ55 35 v57.toNatClampNeg (f_X6_tooHigh 2 σ55)
              True))) ∧ (¬ ((σ55 35 v57.toNatClampNeg) = (f_X6_tooHigh 2 σ55)) →
              (ok_X6_tooHigh 2 σ55) ∧ ((vp_in v57 62) ∧ (let σ62 := pu σ55 35 v57.toNatClampNeg (f_X6_tooHigh 2 σ55)
              True))))))))))))))) ∧ (¬ ((σ8 35 v10.toNatClampNeg) = (f_X6_tooHigh 0 σ8)) →
          (ok_X6_tooHigh 0 σ8) ∧ ((vp_in v10 62) ∧ (let σ15 := pu σ8 35 v10.toNatClampNeg (f_X6_tooHigh 0 σ8)
          (ok_X6_angle σ15) ∧ (let v17 := (((38 : Int32) + ((8 : Int32) * 1)) + ((f_X6_angle σ15) / 510))
          (vp_in v17 62) ∧ ((ok_X6_tooHigh 1 σ15) ∧ ((((σ15 35 v17.toNatClampNeg) = (f_X6_tooHigh 1 σ15)) →
            (ok_X6_tooHigh 1 σ15) ∧ ((vp_in v17 62) ∧ (let σ35 := pu σ15 35 v17.toNatClampNeg (f_X6_tooHigh 1 σ15)
            (ok_X6_angle σ35) ∧ (let v37 := (((38 : Int32) + ((8 : Int32) * 2)) + ((f_X6_angle σ35) / 510))
            (vp_in v37 62) ∧ ((ok_X6_tooHigh 2 σ35) ∧ ((((σ35 35 v37.toNatClampNeg) = (f_X6_tooHigh 2 σ35)) →
              (ok_X6_tooHigh 2 σ35) ∧ ((vp_in v37 62) ∧ (let σ45 := pu σ35 35 v37.toNatClampNeg (f_X6_tooHigh 2 σ35)
              True))) ∧ (¬ ((σ35 35 v37.toNatClampNeg) = (f_X6_tooHigh 2 σ35)) →
              (ok_X6_tooHigh 2 σ35) ∧ ((vp_in v37 62) ∧ (let σ42 := pu σ35 35 v37.toNatClampNeg (f_X6_tooHigh 2 σ35)
              True))))))))) ∧ (¬ ((σ15 35 v17.toNatClampNeg) = (f_X6_tooHigh 1 σ15)) →
            (ok_X6_tooHigh 1 σ15) ∧ ((vp_in v17 62) ∧ (let σ22 := pu σ15 35 v17.toNatClampNeg (f_X6_tooHigh 1 σ15)
            (ok_X6_angle σ22) ∧ (let v24 := (((38 : Int32) + ((8 : Int32) * 2)) + ((f_X6_angle σ22) / 510))
            (vp_in v24 62) ∧ ((ok_X6_tooHigh 2 σ22) ∧ ((((σ22 35 v24.toNatClampNeg) = (f_X6_tooHigh 2 σ22)) →
              (ok_X6_tooHigh 2 σ22) ∧ ((vp_in v24 62) ∧ (let σ32 := pu σ22 35 v24.toNatClampNeg (f_X6_tooHigh 2 σ22)
              True))) ∧ (¬ ((σ22 35 v24.toNatClampNeg) = (f_X6_tooHigh 2 σ22)) →
              (ok_X6_tooHigh 2 σ22) ∧ ((vp_in v24 62) ∧ (let σ29 := pu σ22 35 v24.toNatClampNeg (f_X6_tooHigh 2 σ22)
              True))))))))))))))))))))))))))))
set_option maxHeartbeats 4000000 in
set_option maxRecDepth 100000 in
theorem c_X6_learn (l : Launch) (G : Gt)   {σ : Sg} (hok : ok_X6_learn  σ) : o_Ci l G yX6_learn cX6_learn 4 (some .int) 3 66 [.ref (gAd G 34)] σ (fun r σ' => r = (f_X6_learn  σ).1 ∧ σ' = (f_X6_learn  σ).2) := by
  refine o_Ci.of (by decide +kernel) (Nat.le_of_ble_eq_true rfl) ?_
  intro p e s m args below meth c hc hr
  have hq : ∀ q : Int32 × Sg, q = f_X6_learn  σ → (fun r σ' => r = (f_X6_learn  σ).1 ∧ σ' = (f_X6_learn  σ).2) q.1 q.2 := fun q h => ⟨congrArg Prod.fst h, congrArg Prod.snd h⟩
  refine r_aload_n (pc := 0) hc 0 dX6_learn_0 rfl rfl ?_
  refine r_iconst (pc := 1) (v := 0) hc dX6_learn_1 rfl ?_
  obtain ⟨hs1, hok⟩ := hok
  refine r_callV_i (pc := 2) (as := [.int _]) hc (c_X6_tooHigh l G hs1) kk6 (by decide) rfl mV_X6_tooHigh kM_X6_101 ⟨Nat.le_of_ble_eq_true rfl, Nat.le_of_ble_eq_true rfl⟩ ⟨Nat.le_refl 0, Nat.le_refl 0⟩ rfl rfl (Nat.le_of_ble_eq_true rfl) dX6_learn_2 (fun r σ' h => ?_)
  obtain ⟨rfl, rfl⟩ := h
  obtain ⟨hs2, hok⟩ := hok
  refine r_callS_i (pc := 5) (as := [.int _]) hc (c_X6_isCorrection l G hs2) mS_X6_isCorrection kM_X6_98 ⟨Nat.le_of_ble_eq_true rfl, Nat.le_of_ble_eq_true rfl⟩ ⟨Nat.le_refl 0, Nat.le_refl 0⟩ rfl rfl (Nat.le_of_ble_eq_true rfl) dX6_learn_5 (fun r σ' h => ?_)
  obtain ⟨rfl, rfl⟩ := h
  refine r_if_eq (pc := 8) (tgt := 33) hc dX6_learn_8 (by decide) (fun c8 => ?_) (fun c8 => ?_)
  · have hok := hok.1 c8
    have hq := o_qp hq c8
    refine r_bipush (pc := 33) (v := (-2)) hc dX6_learn_33 (by decide) ?_
    exact r_iret hc hr rfl dX6_learn_35 (hq (_, _) rfl)
  · have hok := hok.2 c8
    have hq := o_qn hq c8
    refine r_aload_n (pc := 11) hc 0 dX6_learn_11 rfl rfl ?_
    refine r_iconst (pc := 12) (v := 1) hc dX6_learn_12 rfl ?_
    obtain ⟨hs3, hok⟩ := hok
    refine r_callV_i (pc := 13) (as := [.int _]) hc (c_X6_tooHigh l G hs3) kk6 (by decide) rfl mV_X6_tooHigh kM_X6_101 ⟨Nat.le_of_ble_eq_true rfl, Nat.le_of_ble_eq_true rfl⟩ ⟨Nat.le_refl 0, Nat.le_refl 0⟩ rfl rfl (Nat.le_of_ble_eq_true rfl) dX6_learn_13 (fun r σ' h => ?_)
    obtain ⟨rfl, rfl⟩ := h
    obtain ⟨hs4, hok⟩ := hok
    refine r_callS_i (pc := 16) (as := [.int _]) hc (c_X6_isCorrection l G hs4) mS_X6_isCorrection kM_X6_98 ⟨Nat.le_of_ble_eq_true rfl, Nat.le_of_ble_eq_true rfl⟩ ⟨Nat.le_refl 0, Nat.le_refl 0⟩ rfl rfl (Nat.le_of_ble_eq_true rfl) dX6_learn_16 (fun r σ' h => ?_)
    obtain ⟨rfl, rfl⟩ := h
    refine r_if_eq (pc := 19) (tgt := 33) hc dX6_learn_19 (by decide) (fun c19 => ?_) (fun c19 => ?_)
    · have hok := hok.1 c19
      have hq := o_qp hq c19
      refine r_bipush (pc := 33) (v := (-2)) hc dX6_learn_33 (by decide) ?_
      exact r_iret hc hr rfl dX6_learn_35 (hq (_, _) rfl)
    · have hok := hok.2 c19
      have hq := o_qn hq c19
      refine r_aload_n (pc := 22) hc 0 dX6_learn_22 rfl rfl ?_
      refine r_iconst (pc := 23) (v := 2) hc dX6_learn_23 rfl ?_
      obtain ⟨hs5, hok⟩ := hok
      refine r_callV_i (pc := 24) (as := [.int _]) hc (c_X6_tooHigh l G hs5) kk6 (by decide) rfl mV_X6_tooHigh kM_X6_101 ⟨Nat.le_of_ble_eq_true rfl, Nat.le_of_ble_eq_true rfl⟩ ⟨Nat.le_refl 0, Nat.le_refl 0⟩ rfl rfl (Nat.le_of_ble_eq_true rfl) dX6_learn_24 (fun r σ' h => ?_)
      obtain ⟨rfl, rfl⟩ := h
      obtain ⟨hs6, hok⟩ := hok
      refine r_callS_i (pc := 27) (as := [.int _]) hc (c_X6_isCorrection l G hs6) mS_X6_isCorrection kM_X6_98 ⟨Nat.le_of_ble_eq_true rfl, Nat.le_of_ble_eq_true rfl⟩ ⟨Nat.le_refl 0, Nat.le_refl 0⟩ rfl rfl (Nat.le_of_ble_eq_true rfl) dX6_learn_27 (fun r σ' h => ?_)
      obtain ⟨rfl, rfl⟩ := h
      refine r_if_ne (pc := 30) (tgt := 36) hc dX6_learn_30 (by decide) (fun c30 => ?_) (fun c30 => ?_)
      · have hok := hok.2 c30
        have hq := o_qn hq c30
        refine r_aload_n (pc := 36) hc 0 dX6_learn_36 rfl rfl ?_
        obtain ⟨hs7, hok⟩ := hok
        refine r_callV_v (pc := 37) (as := []) hc (c_X6_saves l G hs7) kk6 (by decide) rfl mV_X6_saves kM_X6_44 ⟨Nat.le_of_ble_eq_true rfl, Nat.le_of_ble_eq_true rfl⟩ ⟨Nat.le_refl 0, Nat.le_refl 0⟩ rfl rfl (Nat.le_of_ble_eq_true rfl) dX6_learn_37 (fun σ' h => ?_)
        subst h
        refine r_iconst (pc := 40) (v := 0) hc dX6_learn_40 rfl ?_
        refine r_istore_n (pc := 41) (lv' := [(1, _), (0, _)]) hc dX6_learn_41 rfl (by decide) rfl ?_
        refine r_iconst (pc := 42) (v := 0) hc dX6_learn_42 rfl ?_
        refine r_istore_n (pc := 43) (lv' := [(2, _), (1, _), (0, _)]) hc dX6_learn_43 rfl (by decide) rfl ?_
        refine r_iload_n (pc := 44) hc 0 dX6_learn_44 rfl rfl ?_
        refine r_iconst (pc := 45) (v := 3) hc dX6_learn_45 rfl ?_
        refine r_icmp_ge (pc := 46) (tgt := 105) hc dX6_learn_46 (by decide) (fun h => absurd h (by decide)) (fun _ => ?_)
        refine r_bipush (pc := 49) (v := 38) hc dX6_learn_49 (by decide) ?_
        refine r_bipush (pc := 51) (v := 8) hc dX6_learn_51 (by decide) ?_
        refine r_iload_n (pc := 53) hc 0 dX6_learn_53 rfl rfl ?_
        refine r_imul (pc := 54) hc dX6_learn_54 ?_
        refine r_iadd (pc := 55) hc dX6_learn_55 ?_
        refine r_aload_n (pc := 56) hc 2 dX6_learn_56 rfl rfl ?_
        obtain ⟨hs9, hok⟩ := hok
        refine r_callV_i (pc := 57) (as := []) hc (c_X6_angle l G hs9) kk6 (by decide) rfl mV_X6_angle kM_X6_55 ⟨Nat.le_of_ble_eq_true rfl, Nat.le_of_ble_eq_true rfl⟩ ⟨Nat.le_refl 0, Nat.le_refl 0⟩ rfl rfl (Nat.le_of_ble_eq_true rfl) dX6_learn_57 (fun r σ' h => ?_)
        obtain ⟨rfl, rfl⟩ := h
        refine r_sipush (pc := 60) (v := 510) hc dX6_learn_60 (by decide) ?_
        refine r_idiv (pc := 63) hc dX6_learn_63 (by decide) ?_
        refine r_iadd (pc := 64) hc dX6_learn_64 ?_
        refine r_istore_n (pc := 65) (lv' := [(3, _), (2, _), (1, _), (0, _)]) hc dX6_learn_65 rfl (by decide) rfl ?_
        refine r_iload_n (pc := 66) hc 2 dX6_learn_66 rfl rfl ?_
        refine r_aload_n (pc := 67) hc 3 dX6_learn_67 rfl rfl ?_
        refine r_getr (pc := 68) (j := 35) hc 0 kk6 (by decide) rfl (by decide) kF_X6_7 rfl rfl dX6_learn_68 ?_
        refine r_iload_n (pc := 71) hc 0 dX6_learn_71 rfl rfl ?_
        obtain ⟨hs11, hok⟩ := hok
        refine r_iald (pc := 72) (k := _) hc (by decide) rfl hs11 rfl dX6_learn_72 ?_
        refine r_aload_n (pc := 73) hc 3 dX6_learn_73 rfl rfl ?_
        refine r_iload_n (pc := 74) hc 1 dX6_learn_74 rfl rfl ?_
        obtain ⟨hs12, hok⟩ := hok
        refine r_callV_i (pc := 75) (as := [.int _]) hc (c_X6_tooHigh l G hs12) kk6 (by decide) rfl mV_X6_tooHigh kM_X6_101 ⟨Nat.le_of_ble_eq_true rfl, Nat.le_of_ble_eq_true rfl⟩ ⟨Nat.le_refl 0, Nat.le_refl 0⟩ rfl rfl (Nat.le_of_ble_eq_true rfl) dX6_learn_75 (fun r σ' h => ?_)
        obtain ⟨rfl, rfl⟩ := h
        refine r_icmp_ne (pc := 78) (tgt := 85) hc dX6_learn_78 (by decide) (fun c78 => ?_) (fun c78 => ?_)
        · have hok := hok.2 c78
          have hq := o_qn hq c78
          refine r_iconst (pc := 85) (v := 1) hc dX6_learn_85 rfl ?_
          refine r_iadd (pc := 86) hc dX6_learn_86 ?_
          refine r_istore_n (pc := 87) (lv' := [(1, _), (3, _), (2, _), (0, _)]) hc dX6_learn_87 rfl (by decide) rfl ?_
          refine r_aload_n (pc := 88) hc 3 dX6_learn_88 rfl rfl ?_
          refine r_getr (pc := 89) (j := 35) hc 0 kk6 (by decide) rfl (by decide) kF_X6_7 rfl rfl dX6_learn_89 ?_
          refine r_iload_n (pc := 92) hc 1 dX6_learn_92 rfl rfl ?_
          refine r_aload_n (pc := 93) hc 3 dX6_learn_93 rfl rfl ?_
          refine r_iload_n (pc := 94) hc 2 dX6_learn_94 rfl rfl ?_
          obtain ⟨hs13, hok⟩ := hok
          refine r_callV_i (pc := 95) (as := [.int _]) hc (c_X6_tooHigh l G hs13) kk6 (by decide) rfl mV_X6_tooHigh kM_X6_101 ⟨Nat.le_of_ble_eq_true rfl, Nat.le_of_ble_eq_true rfl⟩ ⟨Nat.le_refl 0, Nat.le_refl 0⟩ rfl rfl (Nat.le_of_ble_eq_true rfl) dX6_learn_95 (fun r σ' h => ?_)
          obtain ⟨rfl, rfl⟩ := h
          obtain ⟨hs14, hok⟩ := hok
          refine r_iast (pc := 98) (k := _) hc (by decide) rfl hs14 rfl dX6_learn_98 ?_
          refine r_iinc (pc := 99) (q := 2) (v := 1) (lv' := [(2, _), (1, _), (3, _), (0, _)]) hc dX6_learn_99 rfl (by decide) (by decide) rfl ?_
          refine r_goto (pc := 102) (tgt := 44) hc dX6_learn_102 (by decide) ?_
          refine r_iload_n (pc := 44) hc 0 dX6_learn_44 rfl rfl ?_
          refine r_iconst (pc := 45) (v := 3) hc dX6_learn_45 rfl ?_
          refine r_icmp_ge (pc := 46) (tgt := 105) hc dX6_learn_46 (by decide) (fun h => absurd h (by decide)) (fun _ => ?_)
          refine r_bipush (pc := 49) (v := 38) hc dX6_learn_49 (by decide) ?_
          refine r_bipush (pc := 51) (v := 8) hc dX6_learn_51 (by decide) ?_
          refine r_iload_n (pc := 53) hc 0 dX6_learn_53 rfl rfl ?_
          refine r_imul (pc := 54) hc dX6_learn_54 ?_
          refine r_iadd (pc := 55) hc dX6_learn_55 ?_
          refine r_aload_n (pc := 56) hc 3 dX6_learn_56 rfl rfl ?_
          obtain ⟨hs16, hok⟩ := hok
          refine r_callV_i (pc := 57) (as := []) hc (c_X6_angle l G hs16) kk6 (by decide) rfl mV_X6_angle kM_X6_55 ⟨Nat.le_of_ble_eq_true rfl, Nat.le_of_ble_eq_true rfl⟩ ⟨Nat.le_refl 0, Nat.le_refl 0⟩ rfl rfl (Nat.le_of_ble_eq_true rfl) dX6_learn_57 (fun r σ' h => ?_)
          obtain ⟨rfl, rfl⟩ := h
          refine r_sipush (pc := 60) (v := 510) hc dX6_learn_60 (by decide) ?_
          refine r_idiv (pc := 63) hc dX6_learn_63 (by decide) ?_
          refine r_iadd (pc := 64) hc dX6_learn_64 ?_
          refine r_istore_n (pc := 65) (lv' := [(3, _), (2, _), (1, _), (0, _)]) hc dX6_learn_65 rfl (by decide) rfl ?_
          refine r_iload_n (pc := 66) hc 2 dX6_learn_66 rfl rfl ?_
          refine r_aload_n (pc := 67) hc 3 dX6_learn_67 rfl rfl ?_
          refine r_getr (pc := 68) (j := 35) hc 0 kk6 (by decide) rfl (by decide) kF_X6_7 rfl rfl dX6_learn_68 ?_
          refine r_iload_n (pc := 71) hc 0 dX6_learn_71 rfl rfl ?_
          obtain ⟨hs18, hok⟩ := hok
          refine r_iald (pc := 72) (k := _) hc (by decide) rfl hs18 rfl dX6_learn_72 ?_
          refine r_aload_n (pc := 73) hc 3 dX6_learn_73 rfl rfl ?_
          refine r_iload_n (pc := 74) hc 1 dX6_learn_74 rfl rfl ?_
          obtain ⟨hs19, hok⟩ := hok
          refine r_callV_i (pc := 75) (as := [.int _]) hc (c_X6_tooHigh l G hs19) kk6 (by decide) rfl mV_X6_tooHigh kM_X6_101 ⟨Nat.le_of_ble_eq_true rfl, Nat.le_of_ble_eq_true rfl⟩ ⟨Nat.le_refl 0, Nat.le_refl 0⟩ rfl rfl (Nat.le_of_ble_eq_true rfl) dX6_learn_75 (fun r σ' h => ?_)
          obtain ⟨rfl, rfl⟩ := h
          refine r_icmp_ne (pc := 78) (tgt := 85) hc dX6_learn_78 (by decide) (fun c78 => ?_) (fun c78 => ?_)
          · have hok := hok.2 c78
            have hq := o_qn hq c78
            refine r_iconst (pc := 85) (v := 1) hc dX6_learn_85 rfl ?_
            refine r_iadd (pc := 86) hc dX6_learn_86 ?_
            refine r_istore_n (pc := 87) (lv' := [(1, _), (3, _), (2, _), (0, _)]) hc dX6_learn_87 rfl (by decide) rfl ?_
            refine r_aload_n (pc := 88) hc 3 dX6_learn_88 rfl rfl ?_
            refine r_getr (pc := 89) (j := 35) hc 0 kk6 (by decide) rfl (by decide) kF_X6_7 rfl rfl dX6_learn_89 ?_
            refine r_iload_n (pc := 92) hc 1 dX6_learn_92 rfl rfl ?_
            refine r_aload_n (pc := 93) hc 3 dX6_learn_93 rfl rfl ?_
            refine r_iload_n (pc := 94) hc 2 dX6_learn_94 rfl rfl ?_
            obtain ⟨hs20, hok⟩ := hok
            refine r_callV_i (pc := 95) (as := [.int _]) hc (c_X6_tooHigh l G hs20) kk6 (by decide) rfl mV_X6_tooHigh kM_X6_101 ⟨Nat.le_of_ble_eq_true rfl, Nat.le_of_ble_eq_true rfl⟩ ⟨Nat.le_refl 0, Nat.le_refl 0⟩ rfl rfl (Nat.le_of_ble_eq_true rfl) dX6_learn_95 (fun r σ' h => ?_)
            obtain ⟨rfl, rfl⟩ := h
            obtain ⟨hs21, hok⟩ := hok
            refine r_iast (pc := 98) (k := _) hc (by decide) rfl hs21 rfl dX6_learn_98 ?_
            refine r_iinc (pc := 99) (q := 2) (v := 2) (lv' := [(2, _), (1, _), (3, _), (0, _)]) hc dX6_learn_99 rfl (by decide) (by decide) rfl ?_
            refine r_goto (pc := 102) (tgt := 44) hc dX6_learn_102 (by decide) ?_
            refine r_iload_n (pc := 44) hc 0 dX6_learn_44 rfl rfl ?_
            refine r_iconst (pc := 45) (v := 3) hc dX6_learn_45 rfl ?_
            refine r_icmp_ge (pc := 46) (tgt := 105) hc dX6_learn_46 (by decide) (fun h => absurd h (by decide)) (fun _ => ?_)
            refine r_bipush (pc := 49) (v := 38) hc dX6_learn_49 (by decide) ?_
            refine r_bipush (pc := 51) (v := 8) hc dX6_learn_51 (by decide) ?_
            refine r_iload_n (pc := 53) hc 0 dX6_learn_53 rfl rfl ?_
            refine r_imul (pc := 54) hc dX6_learn_54 ?_
            refine r_iadd (pc := 55) hc dX6_learn_55 ?_
            refine r_aload_n (pc := 56) hc 3 dX6_learn_56 rfl rfl ?_
            obtain ⟨hs23, hok⟩ := hok
            refine r_callV_i (pc := 57) (as := []) hc (c_X6_angle l G hs23) kk6 (by decide) rfl mV_X6_angle kM_X6_55 ⟨Nat.le_of_ble_eq_true rfl, Nat.le_of_ble_eq_true rfl⟩ ⟨Nat.le_refl 0, Nat.le_refl 0⟩ rfl rfl (Nat.le_of_ble_eq_true rfl) dX6_learn_57 (fun r σ' h => ?_)
            obtain ⟨rfl, rfl⟩ := h
            refine r_sipush (pc := 60) (v := 510) hc dX6_learn_60 (by decide) ?_
            refine r_idiv (pc := 63) hc dX6_learn_63 (by decide) ?_
            refine r_iadd (pc := 64) hc dX6_learn_64 ?_
            refine r_istore_n (pc := 65) (lv' := [(3, _), (2, _), (1, _), (0, _)]) hc dX6_learn_65 rfl (by decide) rfl ?_
            refine r_iload_n (pc := 66) hc 2 dX6_learn_66 rfl rfl ?_
            refine r_aload_n (pc := 67) hc 3 dX6_learn_67 rfl rfl ?_
            refine r_getr (pc := 68) (j := 35) hc 0 kk6 (by decide) rfl (by decide) kF_X6_7 rfl rfl dX6_learn_68 ?_
            refine r_iload_n (pc := 71) hc 0 dX6_learn_71 rfl rfl ?_
            obtain ⟨hs25, hok⟩ := hok
            refine r_iald (pc := 72) (k := _) hc (by decide) rfl hs25 rfl dX6_learn_72 ?_
            refine r_aload_n (pc := 73) hc 3 dX6_learn_73 rfl rfl ?_
            refine r_iload_n (pc := 74) hc 1 dX6_learn_74 rfl rfl ?_
            obtain ⟨hs26, hok⟩ := hok
            refine r_callV_i (pc := 75) (as := [.int _]) hc (c_X6_tooHigh l G hs26) kk6 (by decide) rfl mV_X6_tooHigh kM_X6_101 ⟨Nat.le_of_ble_eq_true rfl, Nat.le_of_ble_eq_true rfl⟩ ⟨Nat.le_refl 0, Nat.le_refl 0⟩ rfl rfl (Nat.le_of_ble_eq_true rfl) dX6_learn_75 (fun r σ' h => ?_)
            obtain ⟨rfl, rfl⟩ := h
            refine r_icmp_ne (pc := 78) (tgt := 85) hc dX6_learn_78 (by decide) (fun c78 => ?_) (fun c78 => ?_)
            · have hok := hok.2 c78
              have hq := o_qn hq c78
              refine r_iconst (pc := 85) (v := 1) hc dX6_learn_85 rfl ?_
              refine r_iadd (pc := 86) hc dX6_learn_86 ?_
              refine r_istore_n (pc := 87) (lv' := [(1, _), (3, _), (2, _), (0, _)]) hc dX6_learn_87 rfl (by decide) rfl ?_
              refine r_aload_n (pc := 88) hc 3 dX6_learn_88 rfl rfl ?_
              refine r_getr (pc := 89) (j := 35) hc 0 kk6 (by decide) rfl (by decide) kF_X6_7 rfl rfl dX6_learn_89 ?_
              refine r_iload_n (pc := 92) hc 1 dX6_learn_92 rfl rfl ?_
              refine r_aload_n (pc := 93) hc 3 dX6_learn_93 rfl rfl ?_
              refine r_iload_n (pc := 94) hc 2 dX6_learn_94 rfl rfl ?_
              obtain ⟨hs27, hok⟩ := hok
              refine r_callV_i (pc := 95) (as := [.int _]) hc (c_X6_tooHigh l G hs27) kk6 (by decide) rfl mV_X6_tooHigh kM_X6_101 ⟨Nat.le_of_ble_eq_true rfl, Nat.le_of_ble_eq_true rfl⟩ ⟨Nat.le_refl 0, Nat.le_refl 0⟩ rfl rfl (Nat.le_of_ble_eq_true rfl) dX6_learn_95 (fun r σ' h => ?_)
              obtain ⟨rfl, rfl⟩ := h
              obtain ⟨hs28, hok⟩ := hok
              refine r_iast (pc := 98) (k := _) hc (by decide) rfl hs28 rfl dX6_learn_98 ?_
              refine r_iinc (pc := 99) (q := 2) (v := 3) (lv' := [(2, _), (1, _), (3, _), (0, _)]) hc dX6_learn_99 rfl (by decide) (by decide) rfl ?_
              refine r_goto (pc := 102) (tgt := 44) hc dX6_learn_102 (by decide) ?_
              refine r_iload_n (pc := 44) hc 0 dX6_learn_44 rfl rfl ?_
              refine r_iconst (pc := 45) (v := 3) hc dX6_learn_45 rfl ?_
              refine r_icmp_ge (pc := 46) (tgt := 105) hc dX6_learn_46 (by decide) (fun _ => ?_) (fun h => absurd (by decide) h)
              refine r_iload_n (pc := 105) hc 1 dX6_learn_105 rfl rfl ?_
              exact r_iret hc hr rfl dX6_learn_106 (hq (_, _) rfl)
            · have hok := hok.1 c78
              have hq := o_qp hq c78
              refine r_iconst (pc := 81) (v := 0) hc dX6_learn_81 rfl ?_
              refine r_goto (pc := 82) (tgt := 86) hc dX6_learn_82 (by decide) ?_
              refine r_iadd (pc := 86) hc dX6_learn_86 ?_
              refine r_istore_n (pc := 87) (lv' := [(1, _), (3, _), (2, _), (0, _)]) hc dX6_learn_87 rfl (by decide) rfl ?_
              refine r_aload_n (pc := 88) hc 3 dX6_learn_88 rfl rfl ?_
              refine r_getr (pc := 89) (j := 35) hc 0 kk6 (by decide) rfl (by decide) kF_X6_7 rfl rfl dX6_learn_89 ?_
              refine r_iload_n (pc := 92) hc 1 dX6_learn_92 rfl rfl ?_
              refine r_aload_n (pc := 93) hc 3 dX6_learn_93 rfl rfl ?_
              refine r_iload_n (pc := 94) hc 2 dX6_learn_94 rfl rfl ?_
              obtain ⟨hs30, hok⟩ := hok
              refine r_callV_i (pc := 95) (as := [.int _]) hc (c_X6_tooHigh l G hs30) kk6 (by decide) rfl mV_X6_tooHigh kM_X6_101 ⟨Nat.le_of_ble_eq_true rfl, Nat.le_of_ble_eq_true rfl⟩ ⟨Nat.le_refl 0, Nat.le_refl 0⟩ rfl rfl (Nat.le_of_ble_eq_true rfl) dX6_learn_95 (fun r σ' h => ?_)
              obtain ⟨rfl, rfl⟩ := h
              obtain ⟨hs31, hok⟩ := hok
              refine r_iast (pc := 98) (k := _) hc (by decide) rfl hs31 rfl dX6_learn_98 ?_
              refine r_iinc (pc := 99) (q := 2) (v := 3) (lv' := [(2, _), (1, _), (3, _), (0, _)]) hc dX6_learn_99 rfl (by decide) (by decide) rfl ?_
              refine r_goto (pc := 102) (tgt := 44) hc dX6_learn_102 (by decide) ?_
              refine r_iload_n (pc := 44) hc 0 dX6_learn_44 rfl rfl ?_
              refine r_iconst (pc := 45) (v := 3) hc dX6_learn_45 rfl ?_
              refine r_icmp_ge (pc := 46) (tgt := 105) hc dX6_learn_46 (by decide) (fun _ => ?_) (fun h => absurd (by decide) h)
              refine r_iload_n (pc := 105) hc 1 dX6_learn_105 rfl rfl ?_
              exact r_iret hc hr rfl dX6_learn_106 (hq (_, _) rfl)
          · have hok := hok.1 c78
            have hq := o_qp hq c78
            refine r_iconst (pc := 81) (v := 0) hc dX6_learn_81 rfl ?_
            refine r_goto (pc := 82) (tgt := 86) hc dX6_learn_82 (by decide) ?_
            refine r_iadd (pc := 86) hc dX6_learn_86 ?_
            refine r_istore_n (pc := 87) (lv' := [(1, _), (3, _), (2, _), (0, _)]) hc dX6_learn_87 rfl (by decide) rfl ?_
            refine r_aload_n (pc := 88) hc 3 dX6_learn_88 rfl rfl ?_
            refine r_getr (pc := 89) (j := 35) hc 0 kk6 (by decide) rfl (by decide) kF_X6_7 rfl rfl dX6_learn_89 ?_
            refine r_iload_n (pc := 92) hc 1 dX6_learn_92 rfl rfl ?_
            refine r_aload_n (pc := 93) hc 3 dX6_learn_93 rfl rfl ?_
            refine r_iload_n (pc := 94) hc 2 dX6_learn_94 rfl rfl ?_
            obtain ⟨hs33, hok⟩ := hok
            refine r_callV_i (pc := 95) (as := [.int _]) hc (c_X6_tooHigh l G hs33) kk6 (by decide) rfl mV_X6_tooHigh kM_X6_101 ⟨Nat.le_of_ble_eq_true rfl, Nat.le_of_ble_eq_true rfl⟩ ⟨Nat.le_refl 0, Nat.le_refl 0⟩ rfl rfl (Nat.le_of_ble_eq_true rfl) dX6_learn_95 (fun r σ' h => ?_)
            obtain ⟨rfl, rfl⟩ := h
            obtain ⟨hs34, hok⟩ := hok
            refine r_iast (pc := 98) (k := _) hc (by decide) rfl hs34 rfl dX6_learn_98 ?_
            refine r_iinc (pc := 99) (q := 2) (v := 2) (lv' := [(2, _), (1, _), (3, _), (0, _)]) hc dX6_learn_99 rfl (by decide) (by decide) rfl ?_
            refine r_goto (pc := 102) (tgt := 44) hc dX6_learn_102 (by decide) ?_
            refine r_iload_n (pc := 44) hc 0 dX6_learn_44 rfl rfl ?_
            refine r_iconst (pc := 45) (v := 3) hc dX6_learn_45 rfl ?_
            refine r_icmp_ge (pc := 46) (tgt := 105) hc dX6_learn_46 (by decide) (fun h => absurd h (by decide)) (fun _ => ?_)
            refine r_bipush (pc := 49) (v := 38) hc dX6_learn_49 (by decide) ?_
            refine r_bipush (pc := 51) (v := 8) hc dX6_learn_51 (by decide) ?_
            refine r_iload_n (pc := 53) hc 0 dX6_learn_53 rfl rfl ?_
            refine r_imul (pc := 54) hc dX6_learn_54 ?_
            refine r_iadd (pc := 55) hc dX6_learn_55 ?_
            refine r_aload_n (pc := 56) hc 3 dX6_learn_56 rfl rfl ?_
            obtain ⟨hs36, hok⟩ := hok
            refine r_callV_i (pc := 57) (as := []) hc (c_X6_angle l G hs36) kk6 (by decide) rfl mV_X6_angle kM_X6_55 ⟨Nat.le_of_ble_eq_true rfl, Nat.le_of_ble_eq_true rfl⟩ ⟨Nat.le_refl 0, Nat.le_refl 0⟩ rfl rfl (Nat.le_of_ble_eq_true rfl) dX6_learn_57 (fun r σ' h => ?_)
            obtain ⟨rfl, rfl⟩ := h
            refine r_sipush (pc := 60) (v := 510) hc dX6_learn_60 (by decide) ?_
            refine r_idiv (pc := 63) hc dX6_learn_63 (by decide) ?_
            refine r_iadd (pc := 64) hc dX6_learn_64 ?_
            refine r_istore_n (pc := 65) (lv' := [(3, _), (2, _), (1, _), (0, _)]) hc dX6_learn_65 rfl (by decide) rfl ?_
            refine r_iload_n (pc := 66) hc 2 dX6_learn_66 rfl rfl ?_
            refine r_aload_n (pc := 67) hc 3 dX6_learn_67 rfl rfl ?_
            refine r_getr (pc := 68) (j := 35) hc 0 kk6 (by decide) rfl (by decide) kF_X6_7 rfl rfl dX6_learn_68 ?_
            refine r_iload_n (pc := 71) hc 0 dX6_learn_71 rfl rfl ?_
            obtain ⟨hs38, hok⟩ := hok
            refine r_iald (pc := 72) (k := _) hc (by decide) rfl hs38 rfl dX6_learn_72 ?_
            refine r_aload_n (pc := 73) hc 3 dX6_learn_73 rfl rfl ?_
            refine r_iload_n (pc := 74) hc 1 dX6_learn_74 rfl rfl ?_
            obtain ⟨hs39, hok⟩ := hok
            refine r_callV_i (pc := 75) (as := [.int _]) hc (c_X6_tooHigh l G hs39) kk6 (by decide) rfl mV_X6_tooHigh kM_X6_101 ⟨Nat.le_of_ble_eq_true rfl, Nat.le_of_ble_eq_true rfl⟩ ⟨Nat.le_refl 0, Nat.le_refl 0⟩ rfl rfl (Nat.le_of_ble_eq_true rfl) dX6_learn_75 (fun r σ' h => ?_)
            obtain ⟨rfl, rfl⟩ := h
            refine r_icmp_ne (pc := 78) (tgt := 85) hc dX6_learn_78 (by decide) (fun c78 => ?_) (fun c78 => ?_)
            · have hok := hok.2 c78
              have hq := o_qn hq c78
              refine r_iconst (pc := 85) (v := 1) hc dX6_learn_85 rfl ?_
              refine r_iadd (pc := 86) hc dX6_learn_86 ?_
              refine r_istore_n (pc := 87) (lv' := [(1, _), (3, _), (2, _), (0, _)]) hc dX6_learn_87 rfl (by decide) rfl ?_
              refine r_aload_n (pc := 88) hc 3 dX6_learn_88 rfl rfl ?_
              refine r_getr (pc := 89) (j := 35) hc 0 kk6 (by decide) rfl (by decide) kF_X6_7 rfl rfl dX6_learn_89 ?_
              refine r_iload_n (pc := 92) hc 1 dX6_learn_92 rfl rfl ?_
              refine r_aload_n (pc := 93) hc 3 dX6_learn_93 rfl rfl ?_
              refine r_iload_n (pc := 94) hc 2 dX6_learn_94 rfl rfl ?_
              obtain ⟨hs40, hok⟩ := hok
              refine r_callV_i (pc := 95) (as := [.int _]) hc (c_X6_tooHigh l G hs40) kk6 (by decide) rfl mV_X6_tooHigh kM_X6_101 ⟨Nat.le_of_ble_eq_true rfl, Nat.le_of_ble_eq_true rfl⟩ ⟨Nat.le_refl 0, Nat.le_refl 0⟩ rfl rfl (Nat.le_of_ble_eq_true rfl) dX6_learn_95 (fun r σ' h => ?_)
              obtain ⟨rfl, rfl⟩ := h
              obtain ⟨hs41, hok⟩ := hok
              refine r_iast (pc := 98) (k := _) hc (by decide) rfl hs41 rfl dX6_learn_98 ?_
              refine r_iinc (pc := 99) (q := 2) (v := 3) (lv' := [(2, _), (1, _), (3, _), (0, _)]) hc dX6_learn_99 rfl (by decide) (by decide) rfl ?_
              refine r_goto (pc := 102) (tgt := 44) hc dX6_learn_102 (by decide) ?_
              refine r_iload_n (pc := 44) hc 0 dX6_learn_44 rfl rfl ?_
              refine r_iconst (pc := 45) (v := 3) hc dX6_learn_45 rfl ?_
              refine r_icmp_ge (pc := 46) (tgt := 105) hc dX6_learn_46 (by decide) (fun _ => ?_) (fun h => absurd (by decide) h)
              refine r_iload_n (pc := 105) hc 1 dX6_learn_105 rfl rfl ?_
              exact r_iret hc hr rfl dX6_learn_106 (hq (_, _) rfl)
            · have hok := hok.1 c78
              have hq := o_qp hq c78
              refine r_iconst (pc := 81) (v := 0) hc dX6_learn_81 rfl ?_
              refine r_goto (pc := 82) (tgt := 86) hc dX6_learn_82 (by decide) ?_
              refine r_iadd (pc := 86) hc dX6_learn_86 ?_
              refine r_istore_n (pc := 87) (lv' := [(1, _), (3, _), (2, _), (0, _)]) hc dX6_learn_87 rfl (by decide) rfl ?_
              refine r_aload_n (pc := 88) hc 3 dX6_learn_88 rfl rfl ?_
              refine r_getr (pc := 89) (j := 35) hc 0 kk6 (by decide) rfl (by decide) kF_X6_7 rfl rfl dX6_learn_89 ?_
              refine r_iload_n (pc := 92) hc 1 dX6_learn_92 rfl rfl ?_
              refine r_aload_n (pc := 93) hc 3 dX6_learn_93 rfl rfl ?_
              refine r_iload_n (pc := 94) hc 2 dX6_learn_94 rfl rfl ?_
              obtain ⟨hs43, hok⟩ := hok
              refine r_callV_i (pc := 95) (as := [.int _]) hc (c_X6_tooHigh l G hs43) kk6 (by decide) rfl mV_X6_tooHigh kM_X6_101 ⟨Nat.le_of_ble_eq_true rfl, Nat.le_of_ble_eq_true rfl⟩ ⟨Nat.le_refl 0, Nat.le_refl 0⟩ rfl rfl (Nat.le_of_ble_eq_true rfl) dX6_learn_95 (fun r σ' h => ?_)
              obtain ⟨rfl, rfl⟩ := h
              obtain ⟨hs44, hok⟩ := hok
              refine r_iast (pc := 98) (k := _) hc (by decide) rfl hs44 rfl dX6_learn_98 ?_
              refine r_iinc (pc := 99) (q := 2) (v := 3) (lv' := [(2, _), (1, _), (3, _), (0, _)]) hc dX6_learn_99 rfl (by decide) (by decide) rfl ?_
              refine r_goto (pc := 102) (tgt := 44) hc dX6_learn_102 (by decide) ?_
              refine r_iload_n (pc := 44) hc 0 dX6_learn_44 rfl rfl ?_
              refine r_iconst (pc := 45) (v := 3) hc dX6_learn_45 rfl ?_
              refine r_icmp_ge (pc := 46) (tgt := 105) hc dX6_learn_46 (by decide) (fun _ => ?_) (fun h => absurd (by decide) h)
              refine r_iload_n (pc := 105) hc 1 dX6_learn_105 rfl rfl ?_
              exact r_iret hc hr rfl dX6_learn_106 (hq (_, _) rfl)
        · have hok := hok.1 c78
          have hq := o_qp hq c78
          refine r_iconst (pc := 81) (v := 0) hc dX6_learn_81 rfl ?_
          refine r_goto (pc := 82) (tgt := 86) hc dX6_learn_82 (by decide) ?_
          refine r_iadd (pc := 86) hc dX6_learn_86 ?_
          refine r_istore_n (pc := 87) (lv' := [(1, _), (3, _), (2, _), (0, _)]) hc dX6_learn_87 rfl (by decide) rfl ?_
          refine r_aload_n (pc := 88) hc 3 dX6_learn_88 rfl rfl ?_
          refine r_getr (pc := 89) (j := 35) hc 0 kk6 (by decide) rfl (by decide) kF_X6_7 rfl rfl dX6_learn_89 ?_
          refine r_iload_n (pc := 92) hc 1 dX6_learn_92 rfl rfl ?_
          refine r_aload_n (pc := 93) hc 3 dX6_learn_93 rfl rfl ?_
          refine r_iload_n (pc := 94) hc 2 dX6_learn_94 rfl rfl ?_
          obtain ⟨hs46, hok⟩ := hok
          refine r_callV_i (pc := 95) (as := [.int _]) hc (c_X6_tooHigh l G hs46) kk6 (by decide) rfl mV_X6_tooHigh kM_X6_101 ⟨Nat.le_of_ble_eq_true rfl, Nat.le_of_ble_eq_true rfl⟩ ⟨Nat.le_refl 0, Nat.le_refl 0⟩ rfl rfl (Nat.le_of_ble_eq_true rfl) dX6_learn_95 (fun r σ' h => ?_)
          obtain ⟨rfl, rfl⟩ := h
          obtain ⟨hs47, hok⟩ := hok
          refine r_iast (pc := 98) (k := _) hc (by decide) rfl hs47 rfl dX6_learn_98 ?_
          refine r_iinc (pc := 99) (q := 2) (v := 1) (lv' := [(2, _), (1, _), (3, _), (0, _)]) hc dX6_learn_99 rfl (by decide) (by decide) rfl ?_
          refine r_goto (pc := 102) (tgt := 44) hc dX6_learn_102 (by decide) ?_
          refine r_iload_n (pc := 44) hc 0 dX6_learn_44 rfl rfl ?_
          refine r_iconst (pc := 45) (v := 3) hc dX6_learn_45 rfl ?_
          refine r_icmp_ge (pc := 46) (tgt := 105) hc dX6_learn_46 (by decide) (fun h => absurd h (by decide)) (fun _ => ?_)
          refine r_bipush (pc := 49) (v := 38) hc dX6_learn_49 (by decide) ?_
          refine r_bipush (pc := 51) (v := 8) hc dX6_learn_51 (by decide) ?_
          refine r_iload_n (pc := 53) hc 0 dX6_learn_53 rfl rfl ?_
          refine r_imul (pc := 54) hc dX6_learn_54 ?_
          refine r_iadd (pc := 55) hc dX6_learn_55 ?_
          refine r_aload_n (pc := 56) hc 3 dX6_learn_56 rfl rfl ?_
          obtain ⟨hs49, hok⟩ := hok
          refine r_callV_i (pc := 57) (as := []) hc (c_X6_angle l G hs49) kk6 (by decide) rfl mV_X6_angle kM_X6_55 ⟨Nat.le_of_ble_eq_true rfl, Nat.le_of_ble_eq_true rfl⟩ ⟨Nat.le_refl 0, Nat.le_refl 0⟩ rfl rfl (Nat.le_of_ble_eq_true rfl) dX6_learn_57 (fun r σ' h => ?_)
          obtain ⟨rfl, rfl⟩ := h
          refine r_sipush (pc := 60) (v := 510) hc dX6_learn_60 (by decide) ?_
          refine r_idiv (pc := 63) hc dX6_learn_63 (by decide) ?_
          refine r_iadd (pc := 64) hc dX6_learn_64 ?_
          refine r_istore_n (pc := 65) (lv' := [(3, _), (2, _), (1, _), (0, _)]) hc dX6_learn_65 rfl (by decide) rfl ?_
          refine r_iload_n (pc := 66) hc 2 dX6_learn_66 rfl rfl ?_
          refine r_aload_n (pc := 67) hc 3 dX6_learn_67 rfl rfl ?_
          refine r_getr (pc := 68) (j := 35) hc 0 kk6 (by decide) rfl (by decide) kF_X6_7 rfl rfl dX6_learn_68 ?_
          refine r_iload_n (pc := 71) hc 0 dX6_learn_71 rfl rfl ?_
          obtain ⟨hs51, hok⟩ := hok
          refine r_iald (pc := 72) (k := _) hc (by decide) rfl hs51 rfl dX6_learn_72 ?_
          refine r_aload_n (pc := 73) hc 3 dX6_learn_73 rfl rfl ?_
          refine r_iload_n (pc := 74) hc 1 dX6_learn_74 rfl rfl ?_
          obtain ⟨hs52, hok⟩ := hok
          refine r_callV_i (pc := 75) (as := [.int _]) hc (c_X6_tooHigh l G hs52) kk6 (by decide) rfl mV_X6_tooHigh kM_X6_101 ⟨Nat.le_of_ble_eq_true rfl, Nat.le_of_ble_eq_true rfl⟩ ⟨Nat.le_refl 0, Nat.le_refl 0⟩ rfl rfl (Nat.le_of_ble_eq_true rfl) dX6_learn_75 (fun r σ' h => ?_)
          obtain ⟨rfl, rfl⟩ := h
          refine r_icmp_ne (pc := 78) (tgt := 85) hc dX6_learn_78 (by decide) (fun c78 => ?_) (fun c78 => ?_)
          · have hok := hok.2 c78
            have hq := o_qn hq c78
            refine r_iconst (pc := 85) (v := 1) hc dX6_learn_85 rfl ?_
            refine r_iadd (pc := 86) hc dX6_learn_86 ?_
            refine r_istore_n (pc := 87) (lv' := [(1, _), (3, _), (2, _), (0, _)]) hc dX6_learn_87 rfl (by decide) rfl ?_
            refine r_aload_n (pc := 88) hc 3 dX6_learn_88 rfl rfl ?_
            refine r_getr (pc := 89) (j := 35) hc 0 kk6 (by decide) rfl (by decide) kF_X6_7 rfl rfl dX6_learn_89 ?_
            refine r_iload_n (pc := 92) hc 1 dX6_learn_92 rfl rfl ?_
            refine r_aload_n (pc := 93) hc 3 dX6_learn_93 rfl rfl ?_
            refine r_iload_n (pc := 94) hc 2 dX6_learn_94 rfl rfl ?_
            obtain ⟨hs53, hok⟩ := hok
            refine r_callV_i (pc := 95) (as := [.int _]) hc (c_X6_tooHigh l G hs53) kk6 (by decide) rfl mV_X6_tooHigh kM_X6_101 ⟨Nat.le_of_ble_eq_true rfl, Nat.le_of_ble_eq_true rfl⟩ ⟨Nat.le_refl 0, Nat.le_refl 0⟩ rfl rfl (Nat.le_of_ble_eq_true rfl) dX6_learn_95 (fun r σ' h => ?_)
            obtain ⟨rfl, rfl⟩ := h
            obtain ⟨hs54, hok⟩ := hok
            refine r_iast (pc := 98) (k := _) hc (by decide) rfl hs54 rfl dX6_learn_98 ?_
            refine r_iinc (pc := 99) (q := 2) (v := 2) (lv' := [(2, _), (1, _), (3, _), (0, _)]) hc dX6_learn_99 rfl (by decide) (by decide) rfl ?_
            refine r_goto (pc := 102) (tgt := 44) hc dX6_learn_102 (by decide) ?_
            refine r_iload_n (pc := 44) hc 0 dX6_learn_44 rfl rfl ?_
            refine r_iconst (pc := 45) (v := 3) hc dX6_learn_45 rfl ?_
            refine r_icmp_ge (pc := 46) (tgt := 105) hc dX6_learn_46 (by decide) (fun h => absurd h (by decide)) (fun _ => ?_)
            refine r_bipush (pc := 49) (v := 38) hc dX6_learn_49 (by decide) ?_
            refine r_bipush (pc := 51) (v := 8) hc dX6_learn_51 (by decide) ?_
            refine r_iload_n (pc := 53) hc 0 dX6_learn_53 rfl rfl ?_
            refine r_imul (pc := 54) hc dX6_learn_54 ?_
            refine r_iadd (pc := 55) hc dX6_learn_55 ?_
            refine r_aload_n (pc := 56) hc 3 dX6_learn_56 rfl rfl ?_
            obtain ⟨hs56, hok⟩ := hok
            refine r_callV_i (pc := 57) (as := []) hc (c_X6_angle l G hs56) kk6 (by decide) rfl mV_X6_angle kM_X6_55 ⟨Nat.le_of_ble_eq_true rfl, Nat.le_of_ble_eq_true rfl⟩ ⟨Nat.le_refl 0, Nat.le_refl 0⟩ rfl rfl (Nat.le_of_ble_eq_true rfl) dX6_learn_57 (fun r σ' h => ?_)
            obtain ⟨rfl, rfl⟩ := h
            refine r_sipush (pc := 60) (v := 510) hc dX6_learn_60 (by decide) ?_
            refine r_idiv (pc := 63) hc dX6_learn_63 (by decide) ?_
            refine r_iadd (pc := 64) hc dX6_learn_64 ?_
            refine r_istore_n (pc := 65) (lv' := [(3, _), (2, _), (1, _), (0, _)]) hc dX6_learn_65 rfl (by decide) rfl ?_
            refine r_iload_n (pc := 66) hc 2 dX6_learn_66 rfl rfl ?_
            refine r_aload_n (pc := 67) hc 3 dX6_learn_67 rfl rfl ?_
            refine r_getr (pc := 68) (j := 35) hc 0 kk6 (by decide) rfl (by decide) kF_X6_7 rfl rfl dX6_learn_68 ?_
            refine r_iload_n (pc := 71) hc 0 dX6_learn_71 rfl rfl ?_
            obtain ⟨hs58, hok⟩ := hok
            refine r_iald (pc := 72) (k := _) hc (by decide) rfl hs58 rfl dX6_learn_72 ?_
            refine r_aload_n (pc := 73) hc 3 dX6_learn_73 rfl rfl ?_
            refine r_iload_n (pc := 74) hc 1 dX6_learn_74 rfl rfl ?_
            obtain ⟨hs59, hok⟩ := hok
            refine r_callV_i (pc := 75) (as := [.int _]) hc (c_X6_tooHigh l G hs59) kk6 (by decide) rfl mV_X6_tooHigh kM_X6_101 ⟨Nat.le_of_ble_eq_true rfl, Nat.le_of_ble_eq_true rfl⟩ ⟨Nat.le_refl 0, Nat.le_refl 0⟩ rfl rfl (Nat.le_of_ble_eq_true rfl) dX6_learn_75 (fun r σ' h => ?_)
            obtain ⟨rfl, rfl⟩ := h
            refine r_icmp_ne (pc := 78) (tgt := 85) hc dX6_learn_78 (by decide) (fun c78 => ?_) (fun c78 => ?_)
            · have hok := hok.2 c78
              have hq := o_qn hq c78
              refine r_iconst (pc := 85) (v := 1) hc dX6_learn_85 rfl ?_
              refine r_iadd (pc := 86) hc dX6_learn_86 ?_
              refine r_istore_n (pc := 87) (lv' := [(1, _), (3, _), (2, _), (0, _)]) hc dX6_learn_87 rfl (by decide) rfl ?_
              refine r_aload_n (pc := 88) hc 3 dX6_learn_88 rfl rfl ?_
              refine r_getr (pc := 89) (j := 35) hc 0 kk6 (by decide) rfl (by decide) kF_X6_7 rfl rfl dX6_learn_89 ?_
              refine r_iload_n (pc := 92) hc 1 dX6_learn_92 rfl rfl ?_
              refine r_aload_n (pc := 93) hc 3 dX6_learn_93 rfl rfl ?_
              refine r_iload_n (pc := 94) hc 2 dX6_learn_94 rfl rfl ?_
              obtain ⟨hs60, hok⟩ := hok
              refine r_callV_i (pc := 95) (as := [.int _]) hc (c_X6_tooHigh l G hs60) kk6 (by decide) rfl mV_X6_tooHigh kM_X6_101 ⟨Nat.le_of_ble_eq_true rfl, Nat.le_of_ble_eq_true rfl⟩ ⟨Nat.le_refl 0, Nat.le_refl 0⟩ rfl rfl (Nat.le_of_ble_eq_true rfl) dX6_learn_95 (fun r σ' h => ?_)
              obtain ⟨rfl, rfl⟩ := h
              obtain ⟨hs61, hok⟩ := hok
              refine r_iast (pc := 98) (k := _) hc (by decide) rfl hs61 rfl dX6_learn_98 ?_
              refine r_iinc (pc := 99) (q := 2) (v := 3) (lv' := [(2, _), (1, _), (3, _), (0, _)]) hc dX6_learn_99 rfl (by decide) (by decide) rfl ?_
              refine r_goto (pc := 102) (tgt := 44) hc dX6_learn_102 (by decide) ?_
              refine r_iload_n (pc := 44) hc 0 dX6_learn_44 rfl rfl ?_
              refine r_iconst (pc := 45) (v := 3) hc dX6_learn_45 rfl ?_
              refine r_icmp_ge (pc := 46) (tgt := 105) hc dX6_learn_46 (by decide) (fun _ => ?_) (fun h => absurd (by decide) h)
              refine r_iload_n (pc := 105) hc 1 dX6_learn_105 rfl rfl ?_
              exact r_iret hc hr rfl dX6_learn_106 (hq (_, _) rfl)
            · have hok := hok.1 c78
              have hq := o_qp hq c78
              refine r_iconst (pc := 81) (v := 0) hc dX6_learn_81 rfl ?_
              refine r_goto (pc := 82) (tgt := 86) hc dX6_learn_82 (by decide) ?_
              refine r_iadd (pc := 86) hc dX6_learn_86 ?_
              refine r_istore_n (pc := 87) (lv' := [(1, _), (3, _), (2, _), (0, _)]) hc dX6_learn_87 rfl (by decide) rfl ?_
              refine r_aload_n (pc := 88) hc 3 dX6_learn_88 rfl rfl ?_
              refine r_getr (pc := 89) (j := 35) hc 0 kk6 (by decide) rfl (by decide) kF_X6_7 rfl rfl dX6_learn_89 ?_
              refine r_iload_n (pc := 92) hc 1 dX6_learn_92 rfl rfl ?_
              refine r_aload_n (pc := 93) hc 3 dX6_learn_93 rfl rfl ?_
              refine r_iload_n (pc := 94) hc 2 dX6_learn_94 rfl rfl ?_
              obtain ⟨hs63, hok⟩ := hok
              refine r_callV_i (pc := 95) (as := [.int _]) hc (c_X6_tooHigh l G hs63) kk6 (by decide) rfl mV_X6_tooHigh kM_X6_101 ⟨Nat.le_of_ble_eq_true rfl, Nat.le_of_ble_eq_true rfl⟩ ⟨Nat.le_refl 0, Nat.le_refl 0⟩ rfl rfl (Nat.le_of_ble_eq_true rfl) dX6_learn_95 (fun r σ' h => ?_)
              obtain ⟨rfl, rfl⟩ := h
              obtain ⟨hs64, hok⟩ := hok
              refine r_iast (pc := 98) (k := _) hc (by decide) rfl hs64 rfl dX6_learn_98 ?_
              refine r_iinc (pc := 99) (q := 2) (v := 3) (lv' := [(2, _), (1, _), (3, _), (0, _)]) hc dX6_learn_99 rfl (by decide) (by decide) rfl ?_
              refine r_goto (pc := 102) (tgt := 44) hc dX6_learn_102 (by decide) ?_
              refine r_iload_n (pc := 44) hc 0 dX6_learn_44 rfl rfl ?_
              refine r_iconst (pc := 45) (v := 3) hc dX6_learn_45 rfl ?_
              refine r_icmp_ge (pc := 46) (tgt := 105) hc dX6_learn_46 (by decide) (fun _ => ?_) (fun h => absurd (by decide) h)
              refine r_iload_n (pc := 105) hc 1 dX6_learn_105 rfl rfl ?_
              exact r_iret hc hr rfl dX6_learn_106 (hq (_, _) rfl)
          · have hok := hok.1 c78
            have hq := o_qp hq c78
            refine r_iconst (pc := 81) (v := 0) hc dX6_learn_81 rfl ?_
            refine r_goto (pc := 82) (tgt := 86) hc dX6_learn_82 (by decide) ?_
            refine r_iadd (pc := 86) hc dX6_learn_86 ?_
            refine r_istore_n (pc := 87) (lv' := [(1, _), (3, _), (2, _), (0, _)]) hc dX6_learn_87 rfl (by decide) rfl ?_
            refine r_aload_n (pc := 88) hc 3 dX6_learn_88 rfl rfl ?_
            refine r_getr (pc := 89) (j := 35) hc 0 kk6 (by decide) rfl (by decide) kF_X6_7 rfl rfl dX6_learn_89 ?_
            refine r_iload_n (pc := 92) hc 1 dX6_learn_92 rfl rfl ?_
            refine r_aload_n (pc := 93) hc 3 dX6_learn_93 rfl rfl ?_
            refine r_iload_n (pc := 94) hc 2 dX6_learn_94 rfl rfl ?_
            obtain ⟨hs66, hok⟩ := hok
            refine r_callV_i (pc := 95) (as := [.int _]) hc (c_X6_tooHigh l G hs66) kk6 (by decide) rfl mV_X6_tooHigh kM_X6_101 ⟨Nat.le_of_ble_eq_true rfl, Nat.le_of_ble_eq_true rfl⟩ ⟨Nat.le_refl 0, Nat.le_refl 0⟩ rfl rfl (Nat.le_of_ble_eq_true rfl) dX6_learn_95 (fun r σ' h => ?_)
            obtain ⟨rfl, rfl⟩ := h
            obtain ⟨hs67, hok⟩ := hok
            refine r_iast (pc := 98) (k := _) hc (by decide) rfl hs67 rfl dX6_learn_98 ?_
            refine r_iinc (pc := 99) (q := 2) (v := 2) (lv' := [(2, _), (1, _), (3, _), (0, _)]) hc dX6_learn_99 rfl (by decide) (by decide) rfl ?_
            refine r_goto (pc := 102) (tgt := 44) hc dX6_learn_102 (by decide) ?_
            refine r_iload_n (pc := 44) hc 0 dX6_learn_44 rfl rfl ?_
            refine r_iconst (pc := 45) (v := 3) hc dX6_learn_45 rfl ?_
            refine r_icmp_ge (pc := 46) (tgt := 105) hc dX6_learn_46 (by decide) (fun h => absurd h (by decide)) (fun _ => ?_)
            refine r_bipush (pc := 49) (v := 38) hc dX6_learn_49 (by decide) ?_
            refine r_bipush (pc := 51) (v := 8) hc dX6_learn_51 (by decide) ?_
            refine r_iload_n (pc := 53) hc 0 dX6_learn_53 rfl rfl ?_
            refine r_imul (pc := 54) hc dX6_learn_54 ?_
            refine r_iadd (pc := 55) hc dX6_learn_55 ?_
            refine r_aload_n (pc := 56) hc 3 dX6_learn_56 rfl rfl ?_
            obtain ⟨hs69, hok⟩ := hok
            refine r_callV_i (pc := 57) (as := []) hc (c_X6_angle l G hs69) kk6 (by decide) rfl mV_X6_angle kM_X6_55 ⟨Nat.le_of_ble_eq_true rfl, Nat.le_of_ble_eq_true rfl⟩ ⟨Nat.le_refl 0, Nat.le_refl 0⟩ rfl rfl (Nat.le_of_ble_eq_true rfl) dX6_learn_57 (fun r σ' h => ?_)
            obtain ⟨rfl, rfl⟩ := h
            refine r_sipush (pc := 60) (v := 510) hc dX6_learn_60 (by decide) ?_
            refine r_idiv (pc := 63) hc dX6_learn_63 (by decide) ?_
            refine r_iadd (pc := 64) hc dX6_learn_64 ?_
            refine r_istore_n (pc := 65) (lv' := [(3, _), (2, _), (1, _), (0, _)]) hc dX6_learn_65 rfl (by decide) rfl ?_
            refine r_iload_n (pc := 66) hc 2 dX6_learn_66 rfl rfl ?_
            refine r_aload_n (pc := 67) hc 3 dX6_learn_67 rfl rfl ?_
            refine r_getr (pc := 68) (j := 35) hc 0 kk6 (by decide) rfl (by decide) kF_X6_7 rfl rfl dX6_learn_68 ?_
            refine r_iload_n (pc := 71) hc 0 dX6_learn_71 rfl rfl ?_
            obtain ⟨hs71, hok⟩ := hok
            refine r_iald (pc := 72) (k := _) hc (by decide) rfl hs71 rfl dX6_learn_72 ?_
            refine r_aload_n (pc := 73) hc 3 dX6_learn_73 rfl rfl ?_
            refine r_iload_n (pc := 74) hc 1 dX6_learn_74 rfl rfl ?_
            obtain ⟨hs72, hok⟩ := hok
            refine r_callV_i (pc := 75) (as := [.int _]) hc (c_X6_tooHigh l G hs72) kk6 (by decide) rfl mV_X6_tooHigh kM_X6_101 ⟨Nat.le_of_ble_eq_true rfl, Nat.le_of_ble_eq_true rfl⟩ ⟨Nat.le_refl 0, Nat.le_refl 0⟩ rfl rfl (Nat.le_of_ble_eq_true rfl) dX6_learn_75 (fun r σ' h => ?_)
            obtain ⟨rfl, rfl⟩ := h
            refine r_icmp_ne (pc := 78) (tgt := 85) hc dX6_learn_78 (by decide) (fun c78 => ?_) (fun c78 => ?_)
            · have hok := hok.2 c78
              have hq := o_qn hq c78
              refine r_iconst (pc := 85) (v := 1) hc dX6_learn_85 rfl ?_
              refine r_iadd (pc := 86) hc dX6_learn_86 ?_
              refine r_istore_n (pc := 87) (lv' := [(1, _), (3, _), (2, _), (0, _)]) hc dX6_learn_87 rfl (by decide) rfl ?_
              refine r_aload_n (pc := 88) hc 3 dX6_learn_88 rfl rfl ?_
              refine r_getr (pc := 89) (j := 35) hc 0 kk6 (by decide) rfl (by decide) kF_X6_7 rfl rfl dX6_learn_89 ?_
              refine r_iload_n (pc := 92) hc 1 dX6_learn_92 rfl rfl ?_
              refine r_aload_n (pc := 93) hc 3 dX6_learn_93 rfl rfl ?_
              refine r_iload_n (pc := 94) hc 2 dX6_learn_94 rfl rfl ?_
              obtain ⟨hs73, hok⟩ := hok
              refine r_callV_i (pc := 95) (as := [.int _]) hc (c_X6_tooHigh l G hs73) kk6 (by decide) rfl mV_X6_tooHigh kM_X6_101 ⟨Nat.le_of_ble_eq_true rfl, Nat.le_of_ble_eq_true rfl⟩ ⟨Nat.le_refl 0, Nat.le_refl 0⟩ rfl rfl (Nat.le_of_ble_eq_true rfl) dX6_learn_95 (fun r σ' h => ?_)
              obtain ⟨rfl, rfl⟩ := h
              obtain ⟨hs74, hok⟩ := hok
              refine r_iast (pc := 98) (k := _) hc (by decide) rfl hs74 rfl dX6_learn_98 ?_
              refine r_iinc (pc := 99) (q := 2) (v := 3) (lv' := [(2, _), (1, _), (3, _), (0, _)]) hc dX6_learn_99 rfl (by decide) (by decide) rfl ?_
              refine r_goto (pc := 102) (tgt := 44) hc dX6_learn_102 (by decide) ?_
              refine r_iload_n (pc := 44) hc 0 dX6_learn_44 rfl rfl ?_
              refine r_iconst (pc := 45) (v := 3) hc dX6_learn_45 rfl ?_
              refine r_icmp_ge (pc := 46) (tgt := 105) hc dX6_learn_46 (by decide) (fun _ => ?_) (fun h => absurd (by decide) h)
              refine r_iload_n (pc := 105) hc 1 dX6_learn_105 rfl rfl ?_
              exact r_iret hc hr rfl dX6_learn_106 (hq (_, _) rfl)
            · have hok := hok.1 c78
              have hq := o_qp hq c78
              refine r_iconst (pc := 81) (v := 0) hc dX6_learn_81 rfl ?_
              refine r_goto (pc := 82) (tgt := 86) hc dX6_learn_82 (by decide) ?_
              refine r_iadd (pc := 86) hc dX6_learn_86 ?_
              refine r_istore_n (pc := 87) (lv' := [(1, _), (3, _), (2, _), (0, _)]) hc dX6_learn_87 rfl (by decide) rfl ?_
              refine r_aload_n (pc := 88) hc 3 dX6_learn_88 rfl rfl ?_
              refine r_getr (pc := 89) (j := 35) hc 0 kk6 (by decide) rfl (by decide) kF_X6_7 rfl rfl dX6_learn_89 ?_
              refine r_iload_n (pc := 92) hc 1 dX6_learn_92 rfl rfl ?_
              refine r_aload_n (pc := 93) hc 3 dX6_learn_93 rfl rfl ?_
              refine r_iload_n (pc := 94) hc 2 dX6_learn_94 rfl rfl ?_
              obtain ⟨hs76, hok⟩ := hok
              refine r_callV_i (pc := 95) (as := [.int _]) hc (c_X6_tooHigh l G hs76) kk6 (by decide) rfl mV_X6_tooHigh kM_X6_101 ⟨Nat.le_of_ble_eq_true rfl, Nat.le_of_ble_eq_true rfl⟩ ⟨Nat.le_refl 0, Nat.le_refl 0⟩ rfl rfl (Nat.le_of_ble_eq_true rfl) dX6_learn_95 (fun r σ' h => ?_)
              obtain ⟨rfl, rfl⟩ := h
              obtain ⟨hs77, hok⟩ := hok
              refine r_iast (pc := 98) (k := _) hc (by decide) rfl hs77 rfl dX6_learn_98 ?_
              refine r_iinc (pc := 99) (q := 2) (v := 3) (lv' := [(2, _), (1, _), (3, _), (0, _)]) hc dX6_learn_99 rfl (by decide) (by decide) rfl ?_
              refine r_goto (pc := 102) (tgt := 44) hc dX6_learn_102 (by decide) ?_
              refine r_iload_n (pc := 44) hc 0 dX6_learn_44 rfl rfl ?_
              refine r_iconst (pc := 45) (v := 3) hc dX6_learn_45 rfl ?_
              refine r_icmp_ge (pc := 46) (tgt := 105) hc dX6_learn_46 (by decide) (fun _ => ?_) (fun h => absurd (by decide) h)
              refine r_iload_n (pc := 105) hc 1 dX6_learn_105 rfl rfl ?_
              exact r_iret hc hr rfl dX6_learn_106 (hq (_, _) rfl)
      · have hok := hok.1 c30
        have hq := o_qp hq c30
        refine r_bipush (pc := 33) (v := (-2)) hc dX6_learn_33 (by decide) ?_
        exact r_iret hc hr rfl dX6_learn_35 (hq (_, _) rfl)
noncomputable def f_X6_load_16  : Nat → Int32 → Sg → Int32 × Sg
  | 0 => fun _ σ => (0, σ)
  | n + 1 => fun x1 σ =>
    o_ite (24 ≤ x1) (
      ((σ 34 17), σ)) (
      let σ3 := pu σ 35 (38 + x1).toNatClampNeg (σ 40 ((10 * (x1 / 8)) + (x1 - x1 / 8 * 8)).toNatClampNeg)
      f_X6_load_16 n (x1 + 1) σ3)
def ok_X6_load_16  : Nat → Int32 → Sg → Prop
  | 0 => fun _ _ => False
  | n + 1 => fun x1 σ =>
    ((24 ≤ x1) →
      True) ∧ (¬ (24 ≤ x1) →
      (vp_in ((10 * (x1 / 8)) + (x1 - x1 / 8 * 8)) 30) ∧ ((vp_in (38 + x1) 62) ∧ (let σ3 := pu σ 35 (38 + x1).toNatClampNeg (σ 40 ((10 * (x1 / 8)) + (x1 - x1 / 8 * 8)).toNatClampNeg)
      ok_X6_load_16  n (x1 + 1) σ3)))
noncomputable def f_X6_load  (σ : Sg) : Int32 × Sg :=
  let q2 := f_X6_reads σ
  o_ite (q2.1 ≤ 0) (
    let σ4 := f_X6_saves q2.2
    f_X6_load_16  oF 0 σ4) (
    ((-2), q2.2))
def ok_X6_load  (σ : Sg) : Prop :=
  (ok_X6_reads σ) ∧ (let q2 := f_X6_reads σ
  ((q2.1 ≤ 0) →
    (ok_X6_saves q2.2) ∧ (let σ4 := f_X6_saves q2.2
    ok_X6_load_16  oF 0 σ4)) ∧ (¬ (q2.1 ≤ 0) →
    True))
set_option maxHeartbeats 4000000 in
set_option maxRecDepth 100000 in
theorem t_X6_load_16 {p : Program} {l : Launch} {e : Env} {s : State} {m : MethodId} {args : Array Value} {below : List Frame} {meth : Method} {c : Code} {G : Gt} {post : Int32 → Sg → Prop}   (hc : o_Cx p s m args meth c G cX6_load yX6_load.cls 2) (hr : meth.sig.returnType = (some .int)) : ∀ (n : Nat) (x1 : Int32) (σ : Sg) (hok : ok_X6_load_16  n x1 σ) (hq : ∀ q : Int32 × Sg, q = f_X6_load_16  n x1 σ → post q.1 q.2), o_V p l e { frames := 4, cells := 0, slots := 0, locals := 86 } s m args below meth c (MQ below (va_Qi post (fun σ' t => o_W G σ' t.heap) (o_A G)) args s 0 0 (o_A G)) G 0 0 2 σ 16 [(0, .ref (gAd G 34)), (1, .int x1)] [] := by
  intro n
  induction n with
  | zero =>
    intro x1 σ hok hq
    exact hok.elim
  | succ n ih =>
    intro x1 σ hok hq
    refine r_iload_n (pc := 16) hc 1 dX6_load_16 rfl rfl ?_
    refine r_bipush (pc := 17) (v := 24) hc dX6_load_17 (by decide) ?_
    refine r_icmp_ge (pc := 19) (tgt := 54) hc dX6_load_19 (by decide) (fun c19 => ?_) (fun c19 => ?_)
    · have hok := hok.1 c19
      have hq := o_qp hq c19
      refine r_aload_n (pc := 54) hc 0 dX6_load_54 rfl rfl ?_
      refine r_geti (pc := 55) hc 17 kk6 (by decide) rfl (by decide) kF_X6_159 rfl rfl dX6_load_55 ?_
      exact r_iret hc hr rfl dX6_load_58 (hq (_, _) rfl)
    · have hok := hok.2 c19
      have hq := o_qn hq c19
      refine r_aload_n (pc := 22) hc 0 dX6_load_22 rfl rfl ?_
      refine r_getr (pc := 23) (j := 35) hc 0 kk6 (by decide) rfl (by decide) kF_X6_7 rfl rfl dX6_load_23 ?_
      refine r_bipush (pc := 26) (v := 38) hc dX6_load_26 (by decide) ?_
      refine r_iload_n (pc := 28) hc 1 dX6_load_28 rfl rfl ?_
      refine r_iadd (pc := 29) hc dX6_load_29 ?_
      refine r_aload_n (pc := 30) hc 0 dX6_load_30 rfl rfl ?_
      refine r_getr (pc := 31) (j := 40) hc 16 kk6 (by decide) rfl (by decide) kF_X6_25 rfl rfl dX6_load_31 ?_
      refine r_bipush (pc := 34) (v := 10) hc dX6_load_34 (by decide) ?_
      refine r_iload_n (pc := 36) hc 1 dX6_load_36 rfl rfl ?_
      refine r_bipush (pc := 37) (v := 8) hc dX6_load_37 (by decide) ?_
      refine r_idiv (pc := 39) hc dX6_load_39 (by decide) ?_
      refine r_imul (pc := 40) hc dX6_load_40 ?_
      refine r_iload_n (pc := 41) hc 1 dX6_load_41 rfl rfl ?_
      refine r_bipush (pc := 42) (v := 8) hc dX6_load_42 (by decide) ?_
      refine r_irem (pc := 44) hc dX6_load_44 (by decide) ?_
      refine r_iadd (pc := 45) hc dX6_load_45 ?_
      obtain ⟨hs1, hok⟩ := hok
      refine r_iald (pc := 46) (k := _) hc (by decide) rfl hs1 rfl dX6_load_46 ?_
      obtain ⟨hs2, hok⟩ := hok
      refine r_iast (pc := 47) (k := _) hc (by decide) rfl hs2 rfl dX6_load_47 ?_
      refine r_iinc (pc := 48) (q := 1) (v := _ + 1) (lv' := [(1, _), (0, _)]) hc dX6_load_48 rfl rfl (by decide) rfl ?_
      refine r_goto (pc := 51) (tgt := 16) hc dX6_load_51 (by decide) ?_
      exact o_V.sub (ih _ _ hok hq) [1, 0] rfl
set_option maxHeartbeats 4000000 in
set_option maxRecDepth 100000 in
theorem c_X6_load (l : Launch) (G : Gt)   {σ : Sg} (hok : ok_X6_load  σ) : o_Ci l G yX6_load cX6_load 2 (some .int) 4 86 [.ref (gAd G 34)] σ (fun r σ' => r = (f_X6_load  σ).1 ∧ σ' = (f_X6_load  σ).2) := by
  refine o_Ci.of (by decide +kernel) (Nat.le_of_ble_eq_true rfl) ?_
  intro p e s m args below meth c hc hr
  have hq : ∀ q : Int32 × Sg, q = f_X6_load  σ → (fun r σ' => r = (f_X6_load  σ).1 ∧ σ' = (f_X6_load  σ).2) q.1 q.2 := fun q h => ⟨congrArg Prod.fst h, congrArg Prod.snd h⟩
  refine r_aload_n (pc := 0) hc 0 dX6_load_0 rfl rfl ?_
  obtain ⟨hs1, hok⟩ := hok
  refine r_callV_i (pc := 1) (as := []) hc (c_X6_reads l G hs1) kk6 (by decide) rfl mV_X6_reads kM_X6_165 ⟨Nat.le_of_ble_eq_true rfl, Nat.le_of_ble_eq_true rfl⟩ ⟨Nat.le_refl 0, Nat.le_refl 0⟩ rfl rfl (Nat.le_of_ble_eq_true rfl) dX6_load_1 (fun r σ' h => ?_)
  obtain ⟨rfl, rfl⟩ := h
  refine r_if_le (pc := 4) (tgt := 10) hc dX6_load_4 (by decide) (fun c4 => ?_) (fun c4 => ?_)
  · have hok := hok.1 c4
    have hq := o_qp hq c4
    refine r_aload_n (pc := 10) hc 0 dX6_load_10 rfl rfl ?_
    obtain ⟨hs3, hok⟩ := hok
    refine r_callV_v (pc := 11) (as := []) hc (c_X6_saves l G hs3) kk6 (by decide) rfl mV_X6_saves kM_X6_44 ⟨Nat.le_of_ble_eq_true rfl, Nat.le_of_ble_eq_true rfl⟩ ⟨Nat.le_refl 0, Nat.le_refl 0⟩ rfl rfl (Nat.le_of_ble_eq_true rfl) dX6_load_11 (fun σ' h => ?_)
    subst h
    refine r_iconst (pc := 14) (v := 0) hc dX6_load_14 rfl ?_
    refine r_istore_n (pc := 15) (lv' := [(1, _), (0, _)]) hc dX6_load_15 rfl (by decide) rfl ?_
    exact o_V.sub (t_X6_load_16  hc hr oF _ _ hok hq) [1, 0] rfl
  · have hok := hok.2 c4
    have hq := o_qn hq c4
    refine r_bipush (pc := 7) (v := (-2)) hc dX6_load_7 (by decide) ?_
    exact r_iret hc hr rfl dX6_load_9 (hq (_, _) rfl)
noncomputable def f_X6_looks (p1 : Int32) (σ : Sg) : Sg :=
  let σ2 := pu σ 38 0 (f_X6_readingAt 0 p1 σ)
  let σ4 := pu σ2 38 1 (f_X6_readingAt 1 p1 σ2)
  let σ6 := pu σ4 38 2 (f_X6_readingAt 2 p1 σ4)
  let σ8 := f_X6_finds (σ6 38 0) (σ6 38 1) (σ6 38 2) σ6
  let σ9 := pu σ8 34 8 (σ8 34 5)
  let σ10 := pu σ9 34 9 1
  let σ12 := f_X6_findsIn ((σ10 34 8) / 510) σ10
  o_ite (((σ12 34 5) / 510) = ((σ10 34 8) / 510)) (
    σ12) (
    let σ14 := f_X6_findsIn ((σ12 34 5) / 510) σ12
    σ14)
def ok_X6_looks (p1 : Int32) (σ : Sg) : Prop :=
  (ok_X6_readingAt 0 p1 σ) ∧ (let σ2 := pu σ 38 0 (f_X6_readingAt 0 p1 σ)
  (ok_X6_readingAt 1 p1 σ2) ∧ (let σ4 := pu σ2 38 1 (f_X6_readingAt 1 p1 σ2)
  (ok_X6_readingAt 2 p1 σ4) ∧ (let σ6 := pu σ4 38 2 (f_X6_readingAt 2 p1 σ4)
  (ok_X6_finds (σ6 38 0) (σ6 38 1) (σ6 38 2) σ6) ∧ (let σ8 := f_X6_finds (σ6 38 0) (σ6 38 1) (σ6 38 2) σ6
  let σ9 := pu σ8 34 8 (σ8 34 5)
  let σ10 := pu σ9 34 9 1
  (ok_X6_findsIn ((σ10 34 8) / 510) σ10) ∧ (let σ12 := f_X6_findsIn ((σ10 34 8) / 510) σ10
  ((((σ12 34 5) / 510) = ((σ10 34 8) / 510)) →
    True) ∧ (¬ (((σ12 34 5) / 510) = ((σ10 34 8) / 510)) →
    (ok_X6_findsIn ((σ12 34 5) / 510) σ12) ∧ (let σ14 := f_X6_findsIn ((σ12 34 5) / 510) σ12
    True)))))))
set_option maxHeartbeats 4000000 in
set_option maxRecDepth 100000 in
theorem c_X6_looks (l : Launch) (G : Gt) {p1 : Int32}  {σ : Sg} (hok : ok_X6_looks p1 σ) : o_Cv l G yX6_looks cX6_looks 3 3 71 [.ref (gAd G 34), .int p1] σ (fun σ' => σ' = f_X6_looks p1 σ) := by
  refine o_Cv.of (by decide +kernel) (Nat.le_of_ble_eq_true rfl) ?_
  intro p e s m args below meth c hc hr
  have hq : ∀ q : Sg, q = f_X6_looks p1 σ → (fun σ' => σ' = f_X6_looks p1 σ) q := fun q h => h
  refine r_iconst (pc := 0) (v := 0) hc dX6_looks_0 rfl ?_
  refine r_istore_n (pc := 1) (lv' := [(2, _), (0, _), (1, _)]) hc dX6_looks_1 rfl (by decide) rfl ?_
  refine r_iload_n (pc := 2) hc 0 dX6_looks_2 rfl rfl ?_
  refine r_iconst (pc := 3) (v := 3) hc dX6_looks_3 rfl ?_
  refine r_icmp_ge (pc := 4) (tgt := 25) hc dX6_looks_4 (by decide) (fun h => absurd h (by decide)) (fun _ => ?_)
  refine r_aload_n (pc := 7) hc 1 dX6_looks_7 rfl rfl ?_
  refine r_getr (pc := 8) (j := 38) hc 7 kk6 (by decide) rfl (by decide) kF_X6_19 rfl rfl dX6_looks_8 ?_
  refine r_iload_n (pc := 11) hc 0 dX6_looks_11 rfl rfl ?_
  refine r_aload_n (pc := 12) hc 1 dX6_looks_12 rfl rfl ?_
  refine r_iload_n (pc := 13) hc 0 dX6_looks_13 rfl rfl ?_
  refine r_iload_n (pc := 14) hc 2 dX6_looks_14 rfl rfl ?_
  obtain ⟨hs1, hok⟩ := hok
  refine r_callV_i (pc := 15) (as := [.int _, .int _]) hc (c_X6_readingAt l G hs1) kk6 (by decide) rfl mV_X6_readingAt kM_X6_79 ⟨Nat.le_of_ble_eq_true rfl, Nat.le_of_ble_eq_true rfl⟩ ⟨Nat.le_refl 0, Nat.le_refl 0⟩ rfl rfl (Nat.le_of_ble_eq_true rfl) dX6_looks_15 (fun r σ' h => ?_)
  obtain ⟨rfl, rfl⟩ := h
  refine r_iast (pc := 18) (k := 0) hc (by decide) rfl (by unfold vp_in; decide) (by decide) dX6_looks_18 ?_
  refine r_iinc (pc := 19) (q := 0) (v := 1) (lv' := [(2, _), (0, _), (1, _)]) hc dX6_looks_19 rfl (by decide) (by decide) rfl ?_
  refine r_goto (pc := 22) (tgt := 2) hc dX6_looks_22 (by decide) ?_
  refine r_iload_n (pc := 2) hc 0 dX6_looks_2 rfl rfl ?_
  refine r_iconst (pc := 3) (v := 3) hc dX6_looks_3 rfl ?_
  refine r_icmp_ge (pc := 4) (tgt := 25) hc dX6_looks_4 (by decide) (fun h => absurd h (by decide)) (fun _ => ?_)
  refine r_aload_n (pc := 7) hc 1 dX6_looks_7 rfl rfl ?_
  refine r_getr (pc := 8) (j := 38) hc 7 kk6 (by decide) rfl (by decide) kF_X6_19 rfl rfl dX6_looks_8 ?_
  refine r_iload_n (pc := 11) hc 0 dX6_looks_11 rfl rfl ?_
  refine r_aload_n (pc := 12) hc 1 dX6_looks_12 rfl rfl ?_
  refine r_iload_n (pc := 13) hc 0 dX6_looks_13 rfl rfl ?_
  refine r_iload_n (pc := 14) hc 2 dX6_looks_14 rfl rfl ?_
  obtain ⟨hs3, hok⟩ := hok
  refine r_callV_i (pc := 15) (as := [.int _, .int _]) hc (c_X6_readingAt l G hs3) kk6 (by decide) rfl mV_X6_readingAt kM_X6_79 ⟨Nat.le_of_ble_eq_true rfl, Nat.le_of_ble_eq_true rfl⟩ ⟨Nat.le_refl 0, Nat.le_refl 0⟩ rfl rfl (Nat.le_of_ble_eq_true rfl) dX6_looks_15 (fun r σ' h => ?_)
  obtain ⟨rfl, rfl⟩ := h
  refine r_iast (pc := 18) (k := 1) hc (by decide) rfl (by unfold vp_in; decide) (by decide) dX6_looks_18 ?_
  refine r_iinc (pc := 19) (q := 0) (v := 2) (lv' := [(2, _), (0, _), (1, _)]) hc dX6_looks_19 rfl (by decide) (by decide) rfl ?_
  refine r_goto (pc := 22) (tgt := 2) hc dX6_looks_22 (by decide) ?_
  refine r_iload_n (pc := 2) hc 0 dX6_looks_2 rfl rfl ?_
  refine r_iconst (pc := 3) (v := 3) hc dX6_looks_3 rfl ?_
  refine r_icmp_ge (pc := 4) (tgt := 25) hc dX6_looks_4 (by decide) (fun h => absurd h (by decide)) (fun _ => ?_)
  refine r_aload_n (pc := 7) hc 1 dX6_looks_7 rfl rfl ?_
  refine r_getr (pc := 8) (j := 38) hc 7 kk6 (by decide) rfl (by decide) kF_X6_19 rfl rfl dX6_looks_8 ?_
  refine r_iload_n (pc := 11) hc 0 dX6_looks_11 rfl rfl ?_
  refine r_aload_n (pc := 12) hc 1 dX6_looks_12 rfl rfl ?_
  refine r_iload_n (pc := 13) hc 0 dX6_looks_13 rfl rfl ?_
  refine r_iload_n (pc := 14) hc 2 dX6_looks_14 rfl rfl ?_
  obtain ⟨hs5, hok⟩ := hok
  refine r_callV_i (pc := 15) (as := [.int _, .int _]) hc (c_X6_readingAt l G hs5) kk6 (by decide) rfl mV_X6_readingAt kM_X6_79 ⟨Nat.le_of_ble_eq_true rfl, Nat.le_of_ble_eq_true rfl⟩ ⟨Nat.le_refl 0, Nat.le_refl 0⟩ rfl rfl (Nat.le_of_ble_eq_true rfl) dX6_looks_15 (fun r σ' h => ?_)
  obtain ⟨rfl, rfl⟩ := h
  refine r_iast (pc := 18) (k := 2) hc (by decide) rfl (by unfold vp_in; decide) (by decide) dX6_looks_18 ?_
  refine r_iinc (pc := 19) (q := 0) (v := 3) (lv' := [(2, _), (0, _), (1, _)]) hc dX6_looks_19 rfl (by decide) (by decide) rfl ?_
  refine r_goto (pc := 22) (tgt := 2) hc dX6_looks_22 (by decide) ?_
  refine r_iload_n (pc := 2) hc 0 dX6_looks_2 rfl rfl ?_
  refine r_iconst (pc := 3) (v := 3) hc dX6_looks_3 rfl ?_
  refine r_icmp_ge (pc := 4) (tgt := 25) hc dX6_looks_4 (by decide) (fun _ => ?_) (fun h => absurd (by decide) h)
  refine r_aload_n (pc := 25) hc 1 dX6_looks_25 rfl rfl ?_
  refine r_aload_n (pc := 26) hc 1 dX6_looks_26 rfl rfl ?_
  refine r_getr (pc := 27) (j := 38) hc 7 kk6 (by decide) rfl (by decide) kF_X6_19 rfl rfl dX6_looks_27 ?_
  refine r_iconst (pc := 30) (v := 0) hc dX6_looks_30 rfl ?_
  refine r_iald (pc := 31) (k := 0) hc (by decide) rfl (by unfold vp_in; decide) (by decide) dX6_looks_31 ?_
  refine r_aload_n (pc := 32) hc 1 dX6_looks_32 rfl rfl ?_
  refine r_getr (pc := 33) (j := 38) hc 7 kk6 (by decide) rfl (by decide) kF_X6_19 rfl rfl dX6_looks_33 ?_
  refine r_iconst (pc := 36) (v := 1) hc dX6_looks_36 rfl ?_
  refine r_iald (pc := 37) (k := 1) hc (by decide) rfl (by unfold vp_in; decide) (by decide) dX6_looks_37 ?_
  refine r_aload_n (pc := 38) hc 1 dX6_looks_38 rfl rfl ?_
  refine r_getr (pc := 39) (j := 38) hc 7 kk6 (by decide) rfl (by decide) kF_X6_19 rfl rfl dX6_looks_39 ?_
  refine r_iconst (pc := 42) (v := 2) hc dX6_looks_42 rfl ?_
  refine r_iald (pc := 43) (k := 2) hc (by decide) rfl (by unfold vp_in; decide) (by decide) dX6_looks_43 ?_
  obtain ⟨hs7, hok⟩ := hok
  refine r_callV_v (pc := 44) (as := [.int _, .int _, .int _]) hc (c_X6_finds l G hs7) kk6 (by decide) rfl mV_X6_finds kM_X6_91 ⟨Nat.le_of_ble_eq_true rfl, Nat.le_of_ble_eq_true rfl⟩ ⟨Nat.le_refl 0, Nat.le_refl 0⟩ rfl rfl (Nat.le_of_ble_eq_true rfl) dX6_looks_44 (fun σ' h => ?_)
  subst h
  refine r_aload_n (pc := 47) hc 1 dX6_looks_47 rfl rfl ?_
  refine r_aload_n (pc := 48) hc 1 dX6_looks_48 rfl rfl ?_
  refine r_geti (pc := 49) hc 5 kk6 (by decide) rfl (by decide) kF_X6_85 rfl rfl dX6_looks_49 ?_
  refine r_put (pc := 52) hc 8 kk6 (by decide) rfl (by decide) kF_X6_110 rfl rfl rfl rfl rfl dX6_looks_52 ?_
  refine r_aload_n (pc := 55) hc 1 dX6_looks_55 rfl rfl ?_
  refine r_iconst (pc := 56) (v := 1) hc dX6_looks_56 rfl ?_
  refine r_put (pc := 57) hc 9 kk6 (by decide) rfl (by decide) kF_X6_107 rfl rfl rfl rfl rfl dX6_looks_57 ?_
  refine r_aload_n (pc := 60) hc 1 dX6_looks_60 rfl rfl ?_
  refine r_geti (pc := 61) hc 8 kk6 (by decide) rfl (by decide) kF_X6_110 rfl rfl dX6_looks_61 ?_
  refine r_sipush (pc := 64) (v := 510) hc dX6_looks_64 (by decide) ?_
  refine r_idiv (pc := 67) hc dX6_looks_67 (by decide) ?_
  refine r_istore_n (pc := 68) (lv' := [(2, _), (0, _), (1, _)]) hc dX6_looks_68 rfl (by decide) rfl ?_
  refine r_aload_n (pc := 69) hc 1 dX6_looks_69 rfl rfl ?_
  refine r_iload_n (pc := 70) hc 0 dX6_looks_70 rfl rfl ?_
  obtain ⟨hs11, hok⟩ := hok
  refine r_callV_v (pc := 71) (as := [.int _]) hc (c_X6_findsIn l G hs11) kk6 (by decide) rfl mV_X6_findsIn kM_X6_113 ⟨Nat.le_of_ble_eq_true rfl, Nat.le_of_ble_eq_true rfl⟩ ⟨Nat.le_refl 0, Nat.le_refl 0⟩ rfl rfl (Nat.le_of_ble_eq_true rfl) dX6_looks_71 (fun σ' h => ?_)
  subst h
  refine r_aload_n (pc := 74) hc 1 dX6_looks_74 rfl rfl ?_
  refine r_geti (pc := 75) hc 5 kk6 (by decide) rfl (by decide) kF_X6_85 rfl rfl dX6_looks_75 ?_
  refine r_sipush (pc := 78) (v := 510) hc dX6_looks_78 (by decide) ?_
  refine r_idiv (pc := 81) hc dX6_looks_81 (by decide) ?_
  refine r_iload_n (pc := 82) hc 0 dX6_looks_82 rfl rfl ?_
  refine r_icmp_eq (pc := 83) (tgt := 98) hc dX6_looks_83 (by decide) (fun c83 => ?_) (fun c83 => ?_)
  · have hok := hok.1 c83
    have hq := o_qp hq c83
    exact r_vret hc hr dX6_looks_98 (hq _ rfl)
  · have hok := hok.2 c83
    have hq := o_qn hq c83
    refine r_aload_n (pc := 86) hc 1 dX6_looks_86 rfl rfl ?_
    refine r_aload_n (pc := 87) hc 1 dX6_looks_87 rfl rfl ?_
    refine r_geti (pc := 88) hc 5 kk6 (by decide) rfl (by decide) kF_X6_85 rfl rfl dX6_looks_88 ?_
    refine r_sipush (pc := 91) (v := 510) hc dX6_looks_91 (by decide) ?_
    refine r_idiv (pc := 94) hc dX6_looks_94 (by decide) ?_
    obtain ⟨hs13, hok⟩ := hok
    refine r_callV_v (pc := 95) (as := [.int _]) hc (c_X6_findsIn l G hs13) kk6 (by decide) rfl mV_X6_findsIn kM_X6_113 ⟨Nat.le_of_ble_eq_true rfl, Nat.le_of_ble_eq_true rfl⟩ ⟨Nat.le_refl 0, Nat.le_refl 0⟩ rfl rfl (Nat.le_of_ble_eq_true rfl) dX6_looks_95 (fun σ' h => ?_)
    subst h
    exact r_vret hc hr dX6_looks_98 (hq _ rfl)
noncomputable def f_X6_look (p1 : Int32) (σ : Sg) : Int32 × Sg :=
  o_ite ((f_X6_in p1 0 4 σ) = 0) (
    ((-1), σ)) (
    let σ4 := f_X6_looks (f_X6_angle σ) σ
    o_ite (p1 = 0) (
      ((σ4 34 5), σ4)) (
      o_ite (p1 = 1) (
        ((σ4 34 6), σ4)) (
        o_ite (p1 = 2) (
          ((σ4 34 8), σ4)) (
          o_ite (p1 = 3) (
            ((σ4 34 9), σ4)) (
            o_ite ((σ4 34 5) = (f_X6_angle σ4)) (
              (1, σ4)) (
              (0, σ4)))))))
def ok_X6_look (p1 : Int32) (σ : Sg) : Prop :=
  (ok_X6_in p1 0 4 σ) ∧ ((((f_X6_in p1 0 4 σ) = 0) →
    True) ∧ (¬ ((f_X6_in p1 0 4 σ) = 0) →
    (ok_X6_angle σ) ∧ ((ok_X6_looks (f_X6_angle σ) σ) ∧ (let σ4 := f_X6_looks (f_X6_angle σ) σ
    ((p1 = 0) →
      True) ∧ (¬ (p1 = 0) →
      ((p1 = 1) →
        True) ∧ (¬ (p1 = 1) →
        ((p1 = 2) →
          True) ∧ (¬ (p1 = 2) →
          ((p1 = 3) →
            True) ∧ (¬ (p1 = 3) →
            (ok_X6_angle σ4) ∧ ((((σ4 34 5) = (f_X6_angle σ4)) →
              True) ∧ (¬ ((σ4 34 5) = (f_X6_angle σ4)) →
              True))))))))))
set_option maxHeartbeats 4000000 in
set_option maxRecDepth 100000 in
theorem c_X6_look (l : Launch) (G : Gt) {p1 : Int32}  {σ : Sg} (hok : ok_X6_look p1 σ) : o_Ci l G yX6_look cX6_look 2 (some .int) 4 93 [.ref (gAd G 34), .int p1] σ (fun r σ' => r = (f_X6_look p1 σ).1 ∧ σ' = (f_X6_look p1 σ).2) := by
  refine o_Ci.of (by decide +kernel) (Nat.le_of_ble_eq_true rfl) ?_
  intro p e s m args below meth c hc hr
  have hq : ∀ q : Int32 × Sg, q = f_X6_look p1 σ → (fun r σ' => r = (f_X6_look p1 σ).1 ∧ σ' = (f_X6_look p1 σ).2) q.1 q.2 := fun q h => ⟨congrArg Prod.fst h, congrArg Prod.snd h⟩
  refine r_iload_n (pc := 0) hc 1 dX6_look_0 rfl rfl ?_
  refine r_iconst (pc := 1) (v := 0) hc dX6_look_1 rfl ?_
  refine r_iconst (pc := 2) (v := 4) hc dX6_look_2 rfl ?_
  obtain ⟨hs1, hok⟩ := hok
  refine r_callS_i (pc := 3) (as := [.int _, .int _, .int _]) hc (c_X6_in l G hs1) mS_X6_in kM_X6_32 ⟨Nat.le_of_ble_eq_true rfl, Nat.le_of_ble_eq_true rfl⟩ ⟨Nat.le_refl 0, Nat.le_refl 0⟩ rfl rfl (Nat.le_of_ble_eq_true rfl) dX6_look_3 (fun r σ' h => ?_)
  obtain ⟨rfl, rfl⟩ := h
  refine r_if_ne (pc := 6) (tgt := 11) hc dX6_look_6 (by decide) (fun c6 => ?_) (fun c6 => ?_)
  · have hok := hok.2 c6
    have hq := o_qn hq c6
    refine r_aload_n (pc := 11) hc 0 dX6_look_11 rfl rfl ?_
    refine r_aload_n (pc := 12) hc 0 dX6_look_12 rfl rfl ?_
    obtain ⟨hs2, hok⟩ := hok
    refine r_callV_i (pc := 13) (as := []) hc (c_X6_angle l G hs2) kk6 (by decide) rfl mV_X6_angle kM_X6_55 ⟨Nat.le_of_ble_eq_true rfl, Nat.le_of_ble_eq_true rfl⟩ ⟨Nat.le_refl 0, Nat.le_refl 0⟩ rfl rfl (Nat.le_of_ble_eq_true rfl) dX6_look_13 (fun r σ' h => ?_)
    obtain ⟨rfl, rfl⟩ := h
    obtain ⟨hs3, hok⟩ := hok
    refine r_callV_v (pc := 16) (as := [.int _]) hc (c_X6_looks l G hs3) kk6 (by decide) rfl mV_X6_looks kM_X6_116 ⟨Nat.le_of_ble_eq_true rfl, Nat.le_of_ble_eq_true rfl⟩ ⟨Nat.le_refl 0, Nat.le_refl 0⟩ rfl rfl (Nat.le_of_ble_eq_true rfl) dX6_look_16 (fun σ' h => ?_)
    subst h
    refine r_iload_n (pc := 19) hc 1 dX6_look_19 rfl rfl ?_
    refine o_cs (p1 = 0) (fun s20_0 => ?_) (fun s20_0 => ?_)
    · have hok := hok.1 s20_0
      have hq := o_qp hq s20_0
      refine r_tabIn (pc := 20) (tgt := 52) (k := 0) (off := 32) hc dX6_look_20 s20_0 (by decide) (by decide) (by decide) (by decide) ?_
      refine r_aload_n (pc := 52) hc 0 dX6_look_52 rfl rfl ?_
      refine r_geti (pc := 53) hc 5 kk6 (by decide) rfl (by decide) kF_X6_85 rfl rfl dX6_look_53 ?_
      exact r_iret hc hr rfl dX6_look_56 (hq (_, _) rfl)
    have hok := hok.2 s20_0
    have hq := o_qn hq s20_0
    refine o_cs (p1 = 1) (fun s20_1 => ?_) (fun s20_1 => ?_)
    · have hok := hok.1 s20_1
      have hq := o_qp hq s20_1
      refine r_tabIn (pc := 20) (tgt := 57) (k := 1) (off := 37) hc dX6_look_20 s20_1 (by decide) (by decide) (by decide) (by decide) ?_
      refine r_aload_n (pc := 57) hc 0 dX6_look_57 rfl rfl ?_
      refine r_geti (pc := 58) hc 6 kk6 (by decide) rfl (by decide) kF_X6_82 rfl rfl dX6_look_58 ?_
      exact r_iret hc hr rfl dX6_look_61 (hq (_, _) rfl)
    have hok := hok.2 s20_1
    have hq := o_qn hq s20_1
    refine o_cs (p1 = 2) (fun s20_2 => ?_) (fun s20_2 => ?_)
    · have hok := hok.1 s20_2
      have hq := o_qp hq s20_2
      refine r_tabIn (pc := 20) (tgt := 62) (k := 2) (off := 42) hc dX6_look_20 s20_2 (by decide) (by decide) (by decide) (by decide) ?_
      refine r_aload_n (pc := 62) hc 0 dX6_look_62 rfl rfl ?_
      refine r_geti (pc := 63) hc 8 kk6 (by decide) rfl (by decide) kF_X6_110 rfl rfl dX6_look_63 ?_
      exact r_iret hc hr rfl dX6_look_66 (hq (_, _) rfl)
    have hok := hok.2 s20_2
    have hq := o_qn hq s20_2
    refine o_cs (p1 = 3) (fun s20_3 => ?_) (fun s20_3 => ?_)
    · have hok := hok.1 s20_3
      have hq := o_qp hq s20_3
      refine r_tabIn (pc := 20) (tgt := 67) (k := 3) (off := 47) hc dX6_look_20 s20_3 (by decide) (by decide) (by decide) (by decide) ?_
      refine r_aload_n (pc := 67) hc 0 dX6_look_67 rfl rfl ?_
      refine r_geti (pc := 68) hc 9 kk6 (by decide) rfl (by decide) kF_X6_107 rfl rfl dX6_look_68 ?_
      exact r_iret hc hr rfl dX6_look_71 (hq (_, _) rfl)
    have hok := hok.2 s20_3
    have hq := o_qn hq s20_3
    have e20_0 := lv_neT s20_0 (show (0 : Int32).toInt = 0 by decide)
    have e20_1 := lv_neT s20_1 (show (1 : Int32).toInt = 1 by decide)
    have e20_2 := lv_neT s20_2 (show (2 : Int32).toInt = 2 by decide)
    have e20_3 := lv_neT s20_3 (show (3 : Int32).toInt = 3 by decide)
    refine r_tabOut (pc := 20) (tgt := 72) hc dX6_look_20 (by omega) (by decide) ?_
    refine r_aload_n (pc := 72) hc 0 dX6_look_72 rfl rfl ?_
    refine r_geti (pc := 73) hc 5 kk6 (by decide) rfl (by decide) kF_X6_85 rfl rfl dX6_look_73 ?_
    refine r_aload_n (pc := 76) hc 0 dX6_look_76 rfl rfl ?_
    obtain ⟨hs5, hok⟩ := hok
    refine r_callV_i (pc := 77) (as := []) hc (c_X6_angle l G hs5) kk6 (by decide) rfl mV_X6_angle kM_X6_55 ⟨Nat.le_of_ble_eq_true rfl, Nat.le_of_ble_eq_true rfl⟩ ⟨Nat.le_refl 0, Nat.le_refl 0⟩ rfl rfl (Nat.le_of_ble_eq_true rfl) dX6_look_77 (fun r σ' h => ?_)
    obtain ⟨rfl, rfl⟩ := h
    refine r_icmp_ne (pc := 80) (tgt := 87) hc dX6_look_80 (by decide) (fun c80 => ?_) (fun c80 => ?_)
    · have hok := hok.2 c80
      have hq := o_qn hq c80
      refine r_iconst (pc := 87) (v := 0) hc dX6_look_87 rfl ?_
      exact r_iret hc hr rfl dX6_look_88 (hq (_, _) rfl)
    · have hok := hok.1 c80
      have hq := o_qp hq c80
      refine r_iconst (pc := 83) (v := 1) hc dX6_look_83 rfl ?_
      refine r_goto (pc := 84) (tgt := 88) hc dX6_look_84 (by decide) ?_
      exact r_iret hc hr rfl dX6_look_88 (hq (_, _) rfl)
  · have hok := hok.1 c6
    have hq := o_qp hq c6
    refine r_iconst (pc := 9) (v := (-1)) hc dX6_look_9 rfl ?_
    exact r_iret hc hr rfl dX6_look_10 (hq (_, _) rfl)
noncomputable def f_X6_noise (p1 : Int32) (p2 : Int32) (σ : Sg) : Int32 × Sg :=
  o_ite ((f_X6_isTrack p1 σ) = 0) (
    ((-1), σ)) (
    o_ite ((f_X6_in p2 (-9) 9 σ) = 0) (
      ((-1), σ)) (
      let q4 := f_X6_puts (35 + p1) p2 σ
      ((q4.1 + 100), q4.2)))
def ok_X6_noise (p1 : Int32) (p2 : Int32) (σ : Sg) : Prop :=
  (ok_X6_isTrack p1 σ) ∧ ((((f_X6_isTrack p1 σ) = 0) →
    True) ∧ (¬ ((f_X6_isTrack p1 σ) = 0) →
    (ok_X6_in p2 (-9) 9 σ) ∧ ((((f_X6_in p2 (-9) 9 σ) = 0) →
      True) ∧ (¬ ((f_X6_in p2 (-9) 9 σ) = 0) →
      (ok_X6_puts (35 + p1) p2 σ) ∧ (let q4 := f_X6_puts (35 + p1) p2 σ
      True)))))
set_option maxHeartbeats 4000000 in
set_option maxRecDepth 100000 in
theorem c_X6_noise (l : Launch) (G : Gt) {p1 : Int32} {p2 : Int32}  {σ : Sg} (hok : ok_X6_noise p1 p2 σ) : o_Ci l G yX6_noise cX6_noise 3 (some .int) 2 44 [.ref (gAd G 34), .int p1, .int p2] σ (fun r σ' => r = (f_X6_noise p1 p2 σ).1 ∧ σ' = (f_X6_noise p1 p2 σ).2) := by
  refine o_Ci.of (by decide +kernel) (Nat.le_of_ble_eq_true rfl) ?_
  intro p e s m args below meth c hc hr
  have hq : ∀ q : Int32 × Sg, q = f_X6_noise p1 p2 σ → (fun r σ' => r = (f_X6_noise p1 p2 σ).1 ∧ σ' = (f_X6_noise p1 p2 σ).2) q.1 q.2 := fun q h => ⟨congrArg Prod.fst h, congrArg Prod.snd h⟩
  refine r_iload_n (pc := 0) hc 1 dX6_noise_0 rfl rfl ?_
  obtain ⟨hs1, hok⟩ := hok
  refine r_callS_i (pc := 1) (as := [.int _]) hc (c_X6_isTrack l G hs1) mS_X6_isTrack kM_X6_36 ⟨Nat.le_of_ble_eq_true rfl, Nat.le_of_ble_eq_true rfl⟩ ⟨Nat.le_refl 0, Nat.le_refl 0⟩ rfl rfl (Nat.le_of_ble_eq_true rfl) dX6_noise_1 (fun r σ' h => ?_)
  obtain ⟨rfl, rfl⟩ := h
  refine r_if_eq (pc := 4) (tgt := 33) hc dX6_noise_4 (by decide) (fun c4 => ?_) (fun c4 => ?_)
  · have hok := hok.1 c4
    have hq := o_qp hq c4
    refine r_iconst (pc := 33) (v := (-1)) hc dX6_noise_33 rfl ?_
    exact r_iret hc hr rfl dX6_noise_34 (hq (_, _) rfl)
  · have hok := hok.2 c4
    have hq := o_qn hq c4
    refine r_iload_n (pc := 7) hc 2 dX6_noise_7 rfl rfl ?_
    refine r_bipush (pc := 8) (v := (-9)) hc dX6_noise_8 (by decide) ?_
    refine r_bipush (pc := 10) (v := 9) hc dX6_noise_10 (by decide) ?_
    obtain ⟨hs2, hok⟩ := hok
    refine r_callS_i (pc := 12) (as := [.int _, .int _, .int _]) hc (c_X6_in l G hs2) mS_X6_in kM_X6_32 ⟨Nat.le_of_ble_eq_true rfl, Nat.le_of_ble_eq_true rfl⟩ ⟨Nat.le_refl 0, Nat.le_refl 0⟩ rfl rfl (Nat.le_of_ble_eq_true rfl) dX6_noise_12 (fun r σ' h => ?_)
    obtain ⟨rfl, rfl⟩ := h
    refine r_if_eq (pc := 15) (tgt := 33) hc dX6_noise_15 (by decide) (fun c15 => ?_) (fun c15 => ?_)
    · have hok := hok.1 c15
      have hq := o_qp hq c15
      refine r_iconst (pc := 33) (v := (-1)) hc dX6_noise_33 rfl ?_
      exact r_iret hc hr rfl dX6_noise_34 (hq (_, _) rfl)
    · have hok := hok.2 c15
      have hq := o_qn hq c15
      refine r_aload_n (pc := 18) hc 0 dX6_noise_18 rfl rfl ?_
      refine r_bipush (pc := 19) (v := 35) hc dX6_noise_19 (by decide) ?_
      refine r_iload_n (pc := 21) hc 1 dX6_noise_21 rfl rfl ?_
      refine r_iadd (pc := 22) hc dX6_noise_22 ?_
      refine r_iload_n (pc := 23) hc 2 dX6_noise_23 rfl rfl ?_
      obtain ⟨hs3, hok⟩ := hok
      refine r_callV_i (pc := 24) (as := [.int _, .int _]) hc (c_X6_puts l G hs3) kk6 (by decide) rfl mV_X6_puts kM_X6_52 ⟨Nat.le_of_ble_eq_true rfl, Nat.le_of_ble_eq_true rfl⟩ ⟨Nat.le_refl 0, Nat.le_refl 0⟩ rfl rfl (Nat.le_of_ble_eq_true rfl) dX6_noise_24 (fun r σ' h => ?_)
      obtain ⟨rfl, rfl⟩ := h
      refine r_bipush (pc := 27) (v := 100) hc dX6_noise_27 (by decide) ?_
      refine r_iadd (pc := 29) hc dX6_noise_29 ?_
      refine r_goto (pc := 30) (tgt := 34) hc dX6_noise_30 (by decide) ?_
      exact r_iret hc hr rfl dX6_noise_34 (hq (_, _) rfl)
noncomputable def f_X6_placeFound  (σ : Sg) : Int32 :=
  ((((f_X6_fitting σ) / 4) * 4080) + (σ 34 5))
def ok_X6_placeFound  (σ : Sg) : Prop :=
  (ok_X6_fitting σ) ∧ (True)
set_option maxHeartbeats 4000000 in
set_option maxRecDepth 100000 in
theorem c_X6_placeFound (l : Launch) (G : Gt)   {σ : Sg} (hok : ok_X6_placeFound  σ) : o_Ci l G yX6_placeFound cX6_placeFound 1 (some .int) 2 43 [.ref (gAd G 34)] σ (fun r σ' => r = f_X6_placeFound  σ ∧ σ' = σ) := by
  refine o_Ci.of (by decide +kernel) (Nat.le_of_ble_eq_true rfl) ?_
  intro p e s m args below meth c hc hr
  have hq : ∀ q : Int32, q = f_X6_placeFound  σ → (fun r σ' => r = f_X6_placeFound  σ ∧ σ' = σ) q σ := fun q h => ⟨h, rfl⟩
  refine r_aload_n (pc := 0) hc 0 dX6_placeFound_0 rfl rfl ?_
  obtain ⟨hs1, hok⟩ := hok
  refine r_callV_i (pc := 1) (as := []) hc (c_X6_fitting l G hs1) kk6 (by decide) rfl mV_X6_fitting kM_X6_123 ⟨Nat.le_of_ble_eq_true rfl, Nat.le_of_ble_eq_true rfl⟩ ⟨Nat.le_refl 0, Nat.le_refl 0⟩ rfl rfl (Nat.le_of_ble_eq_true rfl) dX6_placeFound_1 (fun r σ' h => ?_)
  obtain ⟨rfl, rfl⟩ := h
  refine r_iconst (pc := 4) (v := 4) hc dX6_placeFound_4 rfl ?_
  refine r_idiv (pc := 5) hc dX6_placeFound_5 (by decide) ?_
  refine r_sipush (pc := 6) (v := 4080) hc dX6_placeFound_6 (by decide) ?_
  refine r_imul (pc := 9) hc dX6_placeFound_9 ?_
  refine r_aload_n (pc := 10) hc 0 dX6_placeFound_10 rfl rfl ?_
  refine r_geti (pc := 11) hc 5 kk6 (by decide) rfl (by decide) kF_X6_85 rfl rfl dX6_placeFound_11 ?_
  refine r_iadd (pc := 14) hc dX6_placeFound_14 ?_
  exact r_iret hc hr rfl dX6_placeFound_15 (hq _ rfl)
noncomputable def f_X6_poor_4  : Nat → Int32 → Int32 → Sg → Int32
  | 0 => fun _ _ σ => 0
  | n + 1 => fun x1 x2 σ =>
    o_ite (8 ≤ x2) (
      x1) (
      let v3 := (((σ 35 (11 + (((8 : Int32) * 0) + x2)).toNatClampNeg) + (σ 35 35)) - (σ 35 (38 + (((8 : Int32) * 0) + x2)).toNatClampNeg))
      o_ite ((σ 35 7) < v3) (
        let v6 := (((σ 35 (11 + (((8 : Int32) * 1) + x2)).toNatClampNeg) + (σ 35 36)) - (σ 35 (38 + (((8 : Int32) * 1) + x2)).toNatClampNeg))
        let v9 := (((σ 35 (11 + (((8 : Int32) * 2) + x2)).toNatClampNeg) + (σ 35 37)) - (σ 35 (38 + (((8 : Int32) * 2) + x2)).toNatClampNeg))
        f_X6_poor_4 n (x1 + 1) (x2 + 1) σ) (
        o_ite ((-(σ 35 7)) ≤ v3) (
          let v12 := (((σ 35 (11 + (((8 : Int32) * 1) + x2)).toNatClampNeg) + (σ 35 36)) - (σ 35 (38 + (((8 : Int32) * 1) + x2)).toNatClampNeg))
          o_ite ((σ 35 7) < v12) (
            let v15 := (((σ 35 (11 + (((8 : Int32) * 2) + x2)).toNatClampNeg) + (σ 35 37)) - (σ 35 (38 + (((8 : Int32) * 2) + x2)).toNatClampNeg))
            f_X6_poor_4 n (x1 + 1) (x2 + 1) σ) (
            o_ite ((-(σ 35 7)) ≤ v12) (
              let v18 := (((σ 35 (11 + (((8 : Int32) * 2) + x2)).toNatClampNeg) + (σ 35 37)) - (σ 35 (38 + (((8 : Int32) * 2) + x2)).toNatClampNeg))
              o_ite ((σ 35 7) < v18) (
                f_X6_poor_4 n (x1 + 1) (x2 + 1) σ) (
                o_ite ((-(σ 35 7)) ≤ v18) (
                  f_X6_poor_4 n (x1 + 0) (x2 + 1) σ) (
                  f_X6_poor_4 n (x1 + 1) (x2 + 1) σ))) (
              let v21 := (((σ 35 (11 + (((8 : Int32) * 2) + x2)).toNatClampNeg) + (σ 35 37)) - (σ 35 (38 + (((8 : Int32) * 2) + x2)).toNatClampNeg))
              f_X6_poor_4 n (x1 + 1) (x2 + 1) σ))) (
          let v24 := (((σ 35 (11 + (((8 : Int32) * 1) + x2)).toNatClampNeg) + (σ 35 36)) - (σ 35 (38 + (((8 : Int32) * 1) + x2)).toNatClampNeg))
          let v27 := (((σ 35 (11 + (((8 : Int32) * 2) + x2)).toNatClampNeg) + (σ 35 37)) - (σ 35 (38 + (((8 : Int32) * 2) + x2)).toNatClampNeg))
          f_X6_poor_4 n (x1 + 1) (x2 + 1) σ)))
def ok_X6_poor_4  : Nat → Int32 → Int32 → Sg → Prop
  | 0 => fun _ _ _ => False
  | n + 1 => fun x1 x2 σ =>
    ((8 ≤ x2) →
      True) ∧ (¬ (8 ≤ x2) →
      (vp_in (11 + (((8 : Int32) * 0) + x2)) 62) ∧ ((vp_in (38 + (((8 : Int32) * 0) + x2)) 62) ∧ (let v3 := (((σ 35 (11 + (((8 : Int32) * 0) + x2)).toNatClampNeg) + (σ 35 35)) - (σ 35 (38 + (((8 : Int32) * 0) + x2)).toNatClampNeg))
      (((σ 35 7) < v3) →
        (vp_in (11 + (((8 : Int32) * 1) + x2)) 62) ∧ ((vp_in (38 + (((8 : Int32) * 1) + x2)) 62) ∧ (let v6 := (((σ 35 (11 + (((8 : Int32) * 1) + x2)).toNatClampNeg) + (σ 35 36)) - (σ 35 (38 + (((8 : Int32) * 1) + x2)).toNatClampNeg))
        (vp_in (11 + (((8 : Int32) * 2) + x2)) 62) ∧ ((vp_in (38 + (((8 : Int32) * 2) + x2)) 62) ∧ (let v9 := (((σ 35 (11 + (((8 : Int32) * 2) + x2)).toNatClampNeg) + (σ 35 37)) - (σ 35 (38 + (((8 : Int32) * 2) + x2)).toNatClampNeg))
        ok_X6_poor_4  n (x1 + 1) (x2 + 1) σ))))) ∧ (¬ ((σ 35 7) < v3) →
        (((-(σ 35 7)) ≤ v3) →
          (vp_in (11 + (((8 : Int32) * 1) + x2)) 62) ∧ ((vp_in (38 + (((8 : Int32) * 1) + x2)) 62) ∧ (let v12 := (((σ 35 (11 + (((8 : Int32) * 1) + x2)).toNatClampNeg) + (σ 35 36)) - (σ 35 (38 + (((8 : Int32) * 1) + x2)).toNatClampNeg))
          (((σ 35 7) < v12) →
            (vp_in (11 + (((8 : Int32) * 2) + x2)) 62) ∧ ((vp_in (38 + (((8 : Int32) * 2) + x2)) 62) ∧ (let v15 := (((σ 35 (11 + (((8 : Int32) * 2) + x2)).toNatClampNeg) + (σ 35 37)) - (σ 35 (38 + (((8 : Int32) * 2) + x2)).toNatClampNeg))
            ok_X6_poor_4  n (x1 + 1) (x2 + 1) σ))) ∧ (¬ ((σ 35 7) < v12) →
            (((-(σ 35 7)) ≤ v12) →
              (vp_in (11 + (((8 : Int32) * 2) + x2)) 62) ∧ ((vp_in (38 + (((8 : Int32) * 2) + x2)) 62) ∧ (let v18 := (((σ 35 (11 + (((8 : Int32) * 2) + x2)).toNatClampNeg) + (σ 35 37)) - (σ 35 (38 + (((8 : Int32) * 2) + x2)).toNatClampNeg))
              (((σ 35 7) < v18) →
                ok_X6_poor_4  n (x1 + 1) (x2 + 1) σ) ∧ (¬ ((σ 35 7) < v18) →
                (((-(σ 35 7)) ≤ v18) →
                  ok_X6_poor_4  n (x1 + 0) (x2 + 1) σ) ∧ (¬ ((-(σ 35 7)) ≤ v18) →
                  ok_X6_poor_4  n (x1 + 1) (x2 + 1) σ))))) ∧ (¬ ((-(σ 35 7)) ≤ v12) →
              (vp_in (11 + (((8 : Int32) * 2) + x2)) 62) ∧ ((vp_in (38 + (((8 : Int32) * 2) + x2)) 62) ∧ (let v21 := (((σ 35 (11 + (((8 : Int32) * 2) + x2)).toNatClampNeg) + (σ 35 37)) - (σ 35 (38 + (((8 : Int32) * 2) + x2)).toNatClampNeg))
              ok_X6_poor_4  n (x1 + 1) (x2 + 1) σ))))))) ∧ (¬ ((-(σ 35 7)) ≤ v3) →
          (vp_in (11 + (((8 : Int32) * 1) + x2)) 62) ∧ ((vp_in (38 + (((8 : Int32) * 1) + x2)) 62) ∧ (let v24 := (((σ 35 (11 + (((8 : Int32) * 1) + x2)).toNatClampNeg) + (σ 35 36)) - (σ 35 (38 + (((8 : Int32) * 1) + x2)).toNatClampNeg))
          (vp_in (11 + (((8 : Int32) * 2) + x2)) 62) ∧ ((vp_in (38 + (((8 : Int32) * 2) + x2)) 62) ∧ (let v27 := (((σ 35 (11 + (((8 : Int32) * 2) + x2)).toNatClampNeg) + (σ 35 37)) - (σ 35 (38 + (((8 : Int32) * 2) + x2)).toNatClampNeg))
          ok_X6_poor_4  n (x1 + 1) (x2 + 1) σ)))))))))
noncomputable def f_X6_poor  (σ : Sg) : Int32 :=
  f_X6_poor_4  oF 0 0 σ
def ok_X6_poor  (σ : Sg) : Prop :=
  ok_X6_poor_4  oF 0 0 σ
set_option maxHeartbeats 4000000 in
set_option maxRecDepth 100000 in
theorem t_X6_poor_4 {p : Program} {l : Launch} {e : Env} {s : State} {m : MethodId} {args : Array Value} {below : List Frame} {meth : Method} {c : Code} {G : Gt} {post : Int32 → Sg → Prop}   (hc : o_Cx p s m args meth c G cX6_poor yX6_poor.cls 7) (hr : meth.sig.returnType = (some .int)) : ∀ (n : Nat) (x1 : Int32) (x2 : Int32) (σ : Sg) (hok : ok_X6_poor_4  n x1 x2 σ) (hq : ∀ q : Int32, q = f_X6_poor_4  n x1 x2 σ → post q σ), o_V p l e { frames := 0, cells := 0, slots := 0, locals := 0 } s m args below meth c (MQ below (va_Qi post (fun σ' t => o_W G σ' t.heap) (o_A G)) args s 0 0 (o_A G)) G 0 0 7 σ 4 [(0, .ref (gAd G 34)), (1, .int x1), (2, .int x2)] [] := by
  intro n
  induction n with
  | zero =>
    intro x1 x2 σ hok hq
    exact hok.elim
  | succ n ih =>
    intro x1 x2 σ hok hq
    refine r_iload_n (pc := 4) hc 2 dX6_poor_4 rfl rfl ?_
    refine r_bipush (pc := 5) (v := 8) hc dX6_poor_5 (by decide) ?_
    refine r_icmp_ge (pc := 7) (tgt := 123) hc dX6_poor_7 (by decide) (fun c7 => ?_) (fun c7 => ?_)
    · have hok := hok.1 c7
      have hq := o_qp hq c7
      refine r_iload_n (pc := 123) hc 1 dX6_poor_123 rfl rfl ?_
      exact r_iret hc hr rfl dX6_poor_124 (hq _ rfl)
    · have hok := hok.2 c7
      have hq := o_qn hq c7
      refine r_iconst (pc := 10) (v := 0) hc dX6_poor_10 rfl ?_
      refine r_istore_n (pc := 11) (lv' := [(3, _), (0, _), (1, _), (2, _)]) hc dX6_poor_11 rfl (by decide) rfl ?_
      refine r_iconst (pc := 12) (v := 0) hc dX6_poor_12 rfl ?_
      refine r_istore (pc := 13) (lv' := [(4, _), (3, _), (0, _), (1, _), (2, _)]) hc dX6_poor_13 (by decide) rfl ?_
      refine r_iload (pc := 15) hc 0 dX6_poor_15 rfl ?_
      refine r_iconst (pc := 17) (v := 3) hc dX6_poor_17 rfl ?_
      refine r_icmp_ge (pc := 18) (tgt := 105) hc dX6_poor_18 (by decide) (fun h => absurd h (by decide)) (fun _ => ?_)
      refine r_bipush (pc := 21) (v := 8) hc dX6_poor_21 (by decide) ?_
      refine r_iload (pc := 23) hc 0 dX6_poor_23 rfl ?_
      refine r_imul (pc := 25) hc dX6_poor_25 ?_
      refine r_iload_n (pc := 26) hc 4 dX6_poor_26 rfl rfl ?_
      refine r_iadd (pc := 27) hc dX6_poor_27 ?_
      refine r_istore (pc := 28) (lv' := [(5, _), (4, _), (3, _), (0, _), (1, _), (2, _)]) hc dX6_poor_28 (by decide) rfl ?_
      refine r_aload_n (pc := 30) hc 3 dX6_poor_30 rfl rfl ?_
      refine r_getr (pc := 31) (j := 35) hc 0 kk6 (by decide) rfl (by decide) kF_X6_7 rfl rfl dX6_poor_31 ?_
      refine r_bipush (pc := 34) (v := 11) hc dX6_poor_34 (by decide) ?_
      refine r_iload (pc := 36) hc 0 dX6_poor_36 rfl ?_
      refine r_iadd (pc := 38) hc dX6_poor_38 ?_
      obtain ⟨hs1, hok⟩ := hok
      refine r_iald (pc := 39) (k := _) hc (by decide) rfl hs1 rfl dX6_poor_39 ?_
      refine r_aload_n (pc := 40) hc 3 dX6_poor_40 rfl rfl ?_
      refine r_getr (pc := 41) (j := 35) hc 0 kk6 (by decide) rfl (by decide) kF_X6_7 rfl rfl dX6_poor_41 ?_
      refine r_bipush (pc := 44) (v := 35) hc dX6_poor_44 (by decide) ?_
      refine r_iload (pc := 46) hc 1 dX6_poor_46 rfl ?_
      refine r_iadd (pc := 48) hc dX6_poor_48 ?_
      refine r_iald (pc := 49) (k := 35) hc (by decide) rfl (by unfold vp_in; decide) (by decide) dX6_poor_49 ?_
      refine r_iadd (pc := 50) hc dX6_poor_50 ?_
      refine r_aload_n (pc := 51) hc 3 dX6_poor_51 rfl rfl ?_
      refine r_getr (pc := 52) (j := 35) hc 0 kk6 (by decide) rfl (by decide) kF_X6_7 rfl rfl dX6_poor_52 ?_
      refine r_bipush (pc := 55) (v := 38) hc dX6_poor_55 (by decide) ?_
      refine r_iload (pc := 57) hc 0 dX6_poor_57 rfl ?_
      refine r_iadd (pc := 59) hc dX6_poor_59 ?_
      obtain ⟨hs2, hok⟩ := hok
      refine r_iald (pc := 60) (k := _) hc (by decide) rfl hs2 rfl dX6_poor_60 ?_
      refine r_isub (pc := 61) hc dX6_poor_61 ?_
      refine r_istore (pc := 62) (lv' := [(6, _), (5, _), (4, _), (3, _), (0, _), (1, _), (2, _)]) hc dX6_poor_62 (by decide) rfl ?_
      refine r_iload_n (pc := 64) hc 3 dX6_poor_64 rfl rfl ?_
      refine r_if_ne (pc := 65) (tgt := 93) hc dX6_poor_65 (by decide) (fun h => absurd (by decide) h) (fun _ => ?_)
      refine r_iload (pc := 68) hc 0 dX6_poor_68 rfl ?_
      refine r_aload_n (pc := 70) hc 4 dX6_poor_70 rfl rfl ?_
      refine r_getr (pc := 71) (j := 35) hc 0 kk6 (by decide) rfl (by decide) kF_X6_7 rfl rfl dX6_poor_71 ?_
      refine r_bipush (pc := 74) (v := 7) hc dX6_poor_74 (by decide) ?_
      refine r_iald (pc := 76) (k := 7) hc (by decide) rfl (by unfold vp_in; decide) (by decide) dX6_poor_76 ?_
      refine r_icmp_gt (pc := 77) (tgt := 93) hc dX6_poor_77 (by decide) (fun c77 => ?_) (fun c77 => ?_)
      · have hok := hok.1 c77
        have hq := o_qp hq c77
        refine r_iconst (pc := 93) (v := 1) hc dX6_poor_93 rfl ?_
        refine r_goto (pc := 94) (tgt := 98) hc dX6_poor_94 (by decide) ?_
        refine r_istore_n (pc := 98) (lv' := [(3, _), (6, _), (5, _), (4, _), (0, _), (1, _), (2, _)]) hc dX6_poor_98 rfl (by decide) rfl ?_
        refine r_iinc (pc := 99) (q := 3) (v := 1) (lv' := [(4, _), (3, _), (6, _), (5, _), (0, _), (1, _), (2, _)]) hc dX6_poor_99 rfl (by decide) (by decide) rfl ?_
        refine r_goto (pc := 102) (tgt := 15) hc dX6_poor_102 (by decide) ?_
        refine r_iload (pc := 15) hc 0 dX6_poor_15 rfl ?_
        refine r_iconst (pc := 17) (v := 3) hc dX6_poor_17 rfl ?_
        refine r_icmp_ge (pc := 18) (tgt := 105) hc dX6_poor_18 (by decide) (fun h => absurd h (by decide)) (fun _ => ?_)
        refine r_bipush (pc := 21) (v := 8) hc dX6_poor_21 (by decide) ?_
        refine r_iload (pc := 23) hc 0 dX6_poor_23 rfl ?_
        refine r_imul (pc := 25) hc dX6_poor_25 ?_
        refine r_iload_n (pc := 26) hc 6 dX6_poor_26 rfl rfl ?_
        refine r_iadd (pc := 27) hc dX6_poor_27 ?_
        refine r_istore (pc := 28) (lv' := [(5, _), (4, _), (3, _), (6, _), (0, _), (1, _), (2, _)]) hc dX6_poor_28 (by decide) rfl ?_
        refine r_aload_n (pc := 30) hc 4 dX6_poor_30 rfl rfl ?_
        refine r_getr (pc := 31) (j := 35) hc 0 kk6 (by decide) rfl (by decide) kF_X6_7 rfl rfl dX6_poor_31 ?_
        refine r_bipush (pc := 34) (v := 11) hc dX6_poor_34 (by decide) ?_
        refine r_iload (pc := 36) hc 0 dX6_poor_36 rfl ?_
        refine r_iadd (pc := 38) hc dX6_poor_38 ?_
        obtain ⟨hs4, hok⟩ := hok
        refine r_iald (pc := 39) (k := _) hc (by decide) rfl hs4 rfl dX6_poor_39 ?_
        refine r_aload_n (pc := 40) hc 4 dX6_poor_40 rfl rfl ?_
        refine r_getr (pc := 41) (j := 35) hc 0 kk6 (by decide) rfl (by decide) kF_X6_7 rfl rfl dX6_poor_41 ?_
        refine r_bipush (pc := 44) (v := 35) hc dX6_poor_44 (by decide) ?_
        refine r_iload (pc := 46) hc 1 dX6_poor_46 rfl ?_
        refine r_iadd (pc := 48) hc dX6_poor_48 ?_
        refine r_iald (pc := 49) (k := 36) hc (by decide) rfl (by unfold vp_in; decide) (by decide) dX6_poor_49 ?_
        refine r_iadd (pc := 50) hc dX6_poor_50 ?_
        refine r_aload_n (pc := 51) hc 4 dX6_poor_51 rfl rfl ?_
        refine r_getr (pc := 52) (j := 35) hc 0 kk6 (by decide) rfl (by decide) kF_X6_7 rfl rfl dX6_poor_52 ?_
        refine r_bipush (pc := 55) (v := 38) hc dX6_poor_55 (by decide) ?_
        refine r_iload (pc := 57) hc 0 dX6_poor_57 rfl ?_
        refine r_iadd (pc := 59) hc dX6_poor_59 ?_
        obtain ⟨hs5, hok⟩ := hok
        refine r_iald (pc := 60) (k := _) hc (by decide) rfl hs5 rfl dX6_poor_60 ?_
        refine r_isub (pc := 61) hc dX6_poor_61 ?_
        refine r_istore (pc := 62) (lv' := [(6, _), (5, _), (4, _), (3, _), (0, _), (1, _), (2, _)]) hc dX6_poor_62 (by decide) rfl ?_
        refine r_iload_n (pc := 64) hc 3 dX6_poor_64 rfl rfl ?_
        refine r_if_ne (pc := 65) (tgt := 93) hc dX6_poor_65 (by decide) (fun _ => ?_) (fun h => absurd h (by decide))
        refine r_iconst (pc := 93) (v := 1) hc dX6_poor_93 rfl ?_
        refine r_goto (pc := 94) (tgt := 98) hc dX6_poor_94 (by decide) ?_
        refine r_istore_n (pc := 98) (lv' := [(3, _), (6, _), (5, _), (4, _), (0, _), (1, _), (2, _)]) hc dX6_poor_98 rfl (by decide) rfl ?_
        refine r_iinc (pc := 99) (q := 3) (v := 2) (lv' := [(4, _), (3, _), (6, _), (5, _), (0, _), (1, _), (2, _)]) hc dX6_poor_99 rfl (by decide) (by decide) rfl ?_
        refine r_goto (pc := 102) (tgt := 15) hc dX6_poor_102 (by decide) ?_
        refine r_iload (pc := 15) hc 0 dX6_poor_15 rfl ?_
        refine r_iconst (pc := 17) (v := 3) hc dX6_poor_17 rfl ?_
        refine r_icmp_ge (pc := 18) (tgt := 105) hc dX6_poor_18 (by decide) (fun h => absurd h (by decide)) (fun _ => ?_)
        refine r_bipush (pc := 21) (v := 8) hc dX6_poor_21 (by decide) ?_
        refine r_iload (pc := 23) hc 0 dX6_poor_23 rfl ?_
        refine r_imul (pc := 25) hc dX6_poor_25 ?_
        refine r_iload_n (pc := 26) hc 6 dX6_poor_26 rfl rfl ?_
        refine r_iadd (pc := 27) hc dX6_poor_27 ?_
        refine r_istore (pc := 28) (lv' := [(5, _), (4, _), (3, _), (6, _), (0, _), (1, _), (2, _)]) hc dX6_poor_28 (by decide) rfl ?_
        refine r_aload_n (pc := 30) hc 4 dX6_poor_30 rfl rfl ?_
        refine r_getr (pc := 31) (j := 35) hc 0 kk6 (by decide) rfl (by decide) kF_X6_7 rfl rfl dX6_poor_31 ?_
        refine r_bipush (pc := 34) (v := 11) hc dX6_poor_34 (by decide) ?_
        refine r_iload (pc := 36) hc 0 dX6_poor_36 rfl ?_
        refine r_iadd (pc := 38) hc dX6_poor_38 ?_
        obtain ⟨hs7, hok⟩ := hok
        refine r_iald (pc := 39) (k := _) hc (by decide) rfl hs7 rfl dX6_poor_39 ?_
        refine r_aload_n (pc := 40) hc 4 dX6_poor_40 rfl rfl ?_
        refine r_getr (pc := 41) (j := 35) hc 0 kk6 (by decide) rfl (by decide) kF_X6_7 rfl rfl dX6_poor_41 ?_
        refine r_bipush (pc := 44) (v := 35) hc dX6_poor_44 (by decide) ?_
        refine r_iload (pc := 46) hc 1 dX6_poor_46 rfl ?_
        refine r_iadd (pc := 48) hc dX6_poor_48 ?_
        refine r_iald (pc := 49) (k := 37) hc (by decide) rfl (by unfold vp_in; decide) (by decide) dX6_poor_49 ?_
        refine r_iadd (pc := 50) hc dX6_poor_50 ?_
        refine r_aload_n (pc := 51) hc 4 dX6_poor_51 rfl rfl ?_
        refine r_getr (pc := 52) (j := 35) hc 0 kk6 (by decide) rfl (by decide) kF_X6_7 rfl rfl dX6_poor_52 ?_
        refine r_bipush (pc := 55) (v := 38) hc dX6_poor_55 (by decide) ?_
        refine r_iload (pc := 57) hc 0 dX6_poor_57 rfl ?_
        refine r_iadd (pc := 59) hc dX6_poor_59 ?_
        obtain ⟨hs8, hok⟩ := hok
        refine r_iald (pc := 60) (k := _) hc (by decide) rfl hs8 rfl dX6_poor_60 ?_
        refine r_isub (pc := 61) hc dX6_poor_61 ?_
        refine r_istore (pc := 62) (lv' := [(6, _), (5, _), (4, _), (3, _), (0, _), (1, _), (2, _)]) hc dX6_poor_62 (by decide) rfl ?_
        refine r_iload_n (pc := 64) hc 3 dX6_poor_64 rfl rfl ?_
        refine r_if_ne (pc := 65) (tgt := 93) hc dX6_poor_65 (by decide) (fun _ => ?_) (fun h => absurd h (by decide))
        refine r_iconst (pc := 93) (v := 1) hc dX6_poor_93 rfl ?_
        refine r_goto (pc := 94) (tgt := 98) hc dX6_poor_94 (by decide) ?_
        refine r_istore_n (pc := 98) (lv' := [(3, _), (6, _), (5, _), (4, _), (0, _), (1, _), (2, _)]) hc dX6_poor_98 rfl (by decide) rfl ?_
        refine r_iinc (pc := 99) (q := 3) (v := 3) (lv' := [(4, _), (3, _), (6, _), (5, _), (0, _), (1, _), (2, _)]) hc dX6_poor_99 rfl (by decide) (by decide) rfl ?_
        refine r_goto (pc := 102) (tgt := 15) hc dX6_poor_102 (by decide) ?_
        refine r_iload (pc := 15) hc 0 dX6_poor_15 rfl ?_
        refine r_iconst (pc := 17) (v := 3) hc dX6_poor_17 rfl ?_
        refine r_icmp_ge (pc := 18) (tgt := 105) hc dX6_poor_18 (by decide) (fun _ => ?_) (fun h => absurd (by decide) h)
        refine r_iload_n (pc := 105) hc 5 dX6_poor_105 rfl rfl ?_
        refine r_iload_n (pc := 106) hc 1 dX6_poor_106 rfl rfl ?_
        refine r_if_eq (pc := 107) (tgt := 114) hc dX6_poor_107 (by decide) (fun h => absurd h (by decide)) (fun _ => ?_)
        refine r_iconst (pc := 110) (v := 1) hc dX6_poor_110 rfl ?_
        refine r_goto (pc := 111) (tgt := 115) hc dX6_poor_111 (by decide) ?_
        refine r_iadd (pc := 115) hc dX6_poor_115 ?_
        refine r_istore_n (pc := 116) (lv' := [(1, _), (4, _), (3, _), (6, _), (5, _), (0, _), (2, _)]) hc dX6_poor_116 rfl (by decide) rfl ?_
        refine r_iinc (pc := 117) (q := 6) (v := _ + 1) (lv' := [(2, _), (1, _), (4, _), (3, _), (6, _), (5, _), (0, _)]) hc dX6_poor_117 rfl rfl (by decide) rfl ?_
        refine r_goto (pc := 120) (tgt := 4) hc dX6_poor_120 (by decide) ?_
        exact o_V.sub (ih _ _ _ hok hq) [6, 1, 0] rfl
      · have hok := hok.2 c77
        have hq := o_qn hq c77
        refine r_iload (pc := 80) hc 0 dX6_poor_80 rfl ?_
        refine r_aload_n (pc := 82) hc 4 dX6_poor_82 rfl rfl ?_
        refine r_getr (pc := 83) (j := 35) hc 0 kk6 (by decide) rfl (by decide) kF_X6_7 rfl rfl dX6_poor_83 ?_
        refine r_bipush (pc := 86) (v := 7) hc dX6_poor_86 (by decide) ?_
        refine r_iald (pc := 88) (k := 7) hc (by decide) rfl (by unfold vp_in; decide) (by decide) dX6_poor_88 ?_
        refine r_ineg (pc := 89) hc dX6_poor_89 ?_
        refine r_icmp_ge (pc := 90) (tgt := 97) hc dX6_poor_90 (by decide) (fun c90 => ?_) (fun c90 => ?_)
        · have hok := hok.1 c90
          have hq := o_qp hq c90
          refine r_iconst (pc := 97) (v := 0) hc dX6_poor_97 rfl ?_
          refine r_istore_n (pc := 98) (lv' := [(3, _), (6, _), (5, _), (4, _), (0, _), (1, _), (2, _)]) hc dX6_poor_98 rfl (by decide) rfl ?_
          refine r_iinc (pc := 99) (q := 3) (v := 1) (lv' := [(4, _), (3, _), (6, _), (5, _), (0, _), (1, _), (2, _)]) hc dX6_poor_99 rfl (by decide) (by decide) rfl ?_
          refine r_goto (pc := 102) (tgt := 15) hc dX6_poor_102 (by decide) ?_
          refine r_iload (pc := 15) hc 0 dX6_poor_15 rfl ?_
          refine r_iconst (pc := 17) (v := 3) hc dX6_poor_17 rfl ?_
          refine r_icmp_ge (pc := 18) (tgt := 105) hc dX6_poor_18 (by decide) (fun h => absurd h (by decide)) (fun _ => ?_)
          refine r_bipush (pc := 21) (v := 8) hc dX6_poor_21 (by decide) ?_
          refine r_iload (pc := 23) hc 0 dX6_poor_23 rfl ?_
          refine r_imul (pc := 25) hc dX6_poor_25 ?_
          refine r_iload_n (pc := 26) hc 6 dX6_poor_26 rfl rfl ?_
          refine r_iadd (pc := 27) hc dX6_poor_27 ?_
          refine r_istore (pc := 28) (lv' := [(5, _), (4, _), (3, _), (6, _), (0, _), (1, _), (2, _)]) hc dX6_poor_28 (by decide) rfl ?_
          refine r_aload_n (pc := 30) hc 4 dX6_poor_30 rfl rfl ?_
          refine r_getr (pc := 31) (j := 35) hc 0 kk6 (by decide) rfl (by decide) kF_X6_7 rfl rfl dX6_poor_31 ?_
          refine r_bipush (pc := 34) (v := 11) hc dX6_poor_34 (by decide) ?_
          refine r_iload (pc := 36) hc 0 dX6_poor_36 rfl ?_
          refine r_iadd (pc := 38) hc dX6_poor_38 ?_
          obtain ⟨hs10, hok⟩ := hok
          refine r_iald (pc := 39) (k := _) hc (by decide) rfl hs10 rfl dX6_poor_39 ?_
          refine r_aload_n (pc := 40) hc 4 dX6_poor_40 rfl rfl ?_
          refine r_getr (pc := 41) (j := 35) hc 0 kk6 (by decide) rfl (by decide) kF_X6_7 rfl rfl dX6_poor_41 ?_
          refine r_bipush (pc := 44) (v := 35) hc dX6_poor_44 (by decide) ?_
          refine r_iload (pc := 46) hc 1 dX6_poor_46 rfl ?_
          refine r_iadd (pc := 48) hc dX6_poor_48 ?_
          refine r_iald (pc := 49) (k := 36) hc (by decide) rfl (by unfold vp_in; decide) (by decide) dX6_poor_49 ?_
          refine r_iadd (pc := 50) hc dX6_poor_50 ?_
          refine r_aload_n (pc := 51) hc 4 dX6_poor_51 rfl rfl ?_
          refine r_getr (pc := 52) (j := 35) hc 0 kk6 (by decide) rfl (by decide) kF_X6_7 rfl rfl dX6_poor_52 ?_
          refine r_bipush (pc := 55) (v := 38) hc dX6_poor_55 (by decide) ?_
          refine r_iload (pc := 57) hc 0 dX6_poor_57 rfl ?_
          refine r_iadd (pc := 59) hc dX6_poor_59 ?_
          obtain ⟨hs11, hok⟩ := hok
          refine r_iald (pc := 60) (k := _) hc (by decide) rfl hs11 rfl dX6_poor_60 ?_
          refine r_isub (pc := 61) hc dX6_poor_61 ?_
          refine r_istore (pc := 62) (lv' := [(6, _), (5, _), (4, _), (3, _), (0, _), (1, _), (2, _)]) hc dX6_poor_62 (by decide) rfl ?_
          refine r_iload_n (pc := 64) hc 3 dX6_poor_64 rfl rfl ?_
          refine r_if_ne (pc := 65) (tgt := 93) hc dX6_poor_65 (by decide) (fun h => absurd (by decide) h) (fun _ => ?_)
          refine r_iload (pc := 68) hc 0 dX6_poor_68 rfl ?_
          refine r_aload_n (pc := 70) hc 4 dX6_poor_70 rfl rfl ?_
          refine r_getr (pc := 71) (j := 35) hc 0 kk6 (by decide) rfl (by decide) kF_X6_7 rfl rfl dX6_poor_71 ?_
          refine r_bipush (pc := 74) (v := 7) hc dX6_poor_74 (by decide) ?_
          refine r_iald (pc := 76) (k := 7) hc (by decide) rfl (by unfold vp_in; decide) (by decide) dX6_poor_76 ?_
          refine r_icmp_gt (pc := 77) (tgt := 93) hc dX6_poor_77 (by decide) (fun c77 => ?_) (fun c77 => ?_)
          · have hok := hok.1 c77
            have hq := o_qp hq c77
            refine r_iconst (pc := 93) (v := 1) hc dX6_poor_93 rfl ?_
            refine r_goto (pc := 94) (tgt := 98) hc dX6_poor_94 (by decide) ?_
            refine r_istore_n (pc := 98) (lv' := [(3, _), (6, _), (5, _), (4, _), (0, _), (1, _), (2, _)]) hc dX6_poor_98 rfl (by decide) rfl ?_
            refine r_iinc (pc := 99) (q := 3) (v := 2) (lv' := [(4, _), (3, _), (6, _), (5, _), (0, _), (1, _), (2, _)]) hc dX6_poor_99 rfl (by decide) (by decide) rfl ?_
            refine r_goto (pc := 102) (tgt := 15) hc dX6_poor_102 (by decide) ?_
            refine r_iload (pc := 15) hc 0 dX6_poor_15 rfl ?_
            refine r_iconst (pc := 17) (v := 3) hc dX6_poor_17 rfl ?_
            refine r_icmp_ge (pc := 18) (tgt := 105) hc dX6_poor_18 (by decide) (fun h => absurd h (by decide)) (fun _ => ?_)
            refine r_bipush (pc := 21) (v := 8) hc dX6_poor_21 (by decide) ?_
            refine r_iload (pc := 23) hc 0 dX6_poor_23 rfl ?_
            refine r_imul (pc := 25) hc dX6_poor_25 ?_
            refine r_iload_n (pc := 26) hc 6 dX6_poor_26 rfl rfl ?_
            refine r_iadd (pc := 27) hc dX6_poor_27 ?_
            refine r_istore (pc := 28) (lv' := [(5, _), (4, _), (3, _), (6, _), (0, _), (1, _), (2, _)]) hc dX6_poor_28 (by decide) rfl ?_
            refine r_aload_n (pc := 30) hc 4 dX6_poor_30 rfl rfl ?_
            refine r_getr (pc := 31) (j := 35) hc 0 kk6 (by decide) rfl (by decide) kF_X6_7 rfl rfl dX6_poor_31 ?_
            refine r_bipush (pc := 34) (v := 11) hc dX6_poor_34 (by decide) ?_
            refine r_iload (pc := 36) hc 0 dX6_poor_36 rfl ?_
            refine r_iadd (pc := 38) hc dX6_poor_38 ?_
            obtain ⟨hs13, hok⟩ := hok
            refine r_iald (pc := 39) (k := _) hc (by decide) rfl hs13 rfl dX6_poor_39 ?_
            refine r_aload_n (pc := 40) hc 4 dX6_poor_40 rfl rfl ?_
            refine r_getr (pc := 41) (j := 35) hc 0 kk6 (by decide) rfl (by decide) kF_X6_7 rfl rfl dX6_poor_41 ?_
            refine r_bipush (pc := 44) (v := 35) hc dX6_poor_44 (by decide) ?_
            refine r_iload (pc := 46) hc 1 dX6_poor_46 rfl ?_
            refine r_iadd (pc := 48) hc dX6_poor_48 ?_
            refine r_iald (pc := 49) (k := 37) hc (by decide) rfl (by unfold vp_in; decide) (by decide) dX6_poor_49 ?_
            refine r_iadd (pc := 50) hc dX6_poor_50 ?_
            refine r_aload_n (pc := 51) hc 4 dX6_poor_51 rfl rfl ?_
            refine r_getr (pc := 52) (j := 35) hc 0 kk6 (by decide) rfl (by decide) kF_X6_7 rfl rfl dX6_poor_52 ?_
            refine r_bipush (pc := 55) (v := 38) hc dX6_poor_55 (by decide) ?_
            refine r_iload (pc := 57) hc 0 dX6_poor_57 rfl ?_
            refine r_iadd (pc := 59) hc dX6_poor_59 ?_
            obtain ⟨hs14, hok⟩ := hok
            refine r_iald (pc := 60) (k := _) hc (by decide) rfl hs14 rfl dX6_poor_60 ?_
            refine r_isub (pc := 61) hc dX6_poor_61 ?_
            refine r_istore (pc := 62) (lv' := [(6, _), (5, _), (4, _), (3, _), (0, _), (1, _), (2, _)]) hc dX6_poor_62 (by decide) rfl ?_
            refine r_iload_n (pc := 64) hc 3 dX6_poor_64 rfl rfl ?_
            refine r_if_ne (pc := 65) (tgt := 93) hc dX6_poor_65 (by decide) (fun _ => ?_) (fun h => absurd h (by decide))
            refine r_iconst (pc := 93) (v := 1) hc dX6_poor_93 rfl ?_
            refine r_goto (pc := 94) (tgt := 98) hc dX6_poor_94 (by decide) ?_
            refine r_istore_n (pc := 98) (lv' := [(3, _), (6, _), (5, _), (4, _), (0, _), (1, _), (2, _)]) hc dX6_poor_98 rfl (by decide) rfl ?_
            refine r_iinc (pc := 99) (q := 3) (v := 3) (lv' := [(4, _), (3, _), (6, _), (5, _), (0, _), (1, _), (2, _)]) hc dX6_poor_99 rfl (by decide) (by decide) rfl ?_
            refine r_goto (pc := 102) (tgt := 15) hc dX6_poor_102 (by decide) ?_
            refine r_iload (pc := 15) hc 0 dX6_poor_15 rfl ?_
            refine r_iconst (pc := 17) (v := 3) hc dX6_poor_17 rfl ?_
            refine r_icmp_ge (pc := 18) (tgt := 105) hc dX6_poor_18 (by decide) (fun _ => ?_) (fun h => absurd (by decide) h)
            refine r_iload_n (pc := 105) hc 5 dX6_poor_105 rfl rfl ?_
            refine r_iload_n (pc := 106) hc 1 dX6_poor_106 rfl rfl ?_
            refine r_if_eq (pc := 107) (tgt := 114) hc dX6_poor_107 (by decide) (fun h => absurd h (by decide)) (fun _ => ?_)
            refine r_iconst (pc := 110) (v := 1) hc dX6_poor_110 rfl ?_
            refine r_goto (pc := 111) (tgt := 115) hc dX6_poor_111 (by decide) ?_
            refine r_iadd (pc := 115) hc dX6_poor_115 ?_
            refine r_istore_n (pc := 116) (lv' := [(1, _), (4, _), (3, _), (6, _), (5, _), (0, _), (2, _)]) hc dX6_poor_116 rfl (by decide) rfl ?_
            refine r_iinc (pc := 117) (q := 6) (v := _ + 1) (lv' := [(2, _), (1, _), (4, _), (3, _), (6, _), (5, _), (0, _)]) hc dX6_poor_117 rfl rfl (by decide) rfl ?_
            refine r_goto (pc := 120) (tgt := 4) hc dX6_poor_120 (by decide) ?_
            exact o_V.sub (ih _ _ _ hok hq) [6, 1, 0] rfl
          · have hok := hok.2 c77
            have hq := o_qn hq c77
            refine r_iload (pc := 80) hc 0 dX6_poor_80 rfl ?_
            refine r_aload_n (pc := 82) hc 4 dX6_poor_82 rfl rfl ?_
            refine r_getr (pc := 83) (j := 35) hc 0 kk6 (by decide) rfl (by decide) kF_X6_7 rfl rfl dX6_poor_83 ?_
            refine r_bipush (pc := 86) (v := 7) hc dX6_poor_86 (by decide) ?_
            refine r_iald (pc := 88) (k := 7) hc (by decide) rfl (by unfold vp_in; decide) (by decide) dX6_poor_88 ?_
            refine r_ineg (pc := 89) hc dX6_poor_89 ?_
            refine r_icmp_ge (pc := 90) (tgt := 97) hc dX6_poor_90 (by decide) (fun c90 => ?_) (fun c90 => ?_)
            · have hok := hok.1 c90
              have hq := o_qp hq c90
              refine r_iconst (pc := 97) (v := 0) hc dX6_poor_97 rfl ?_
              refine r_istore_n (pc := 98) (lv' := [(3, _), (6, _), (5, _), (4, _), (0, _), (1, _), (2, _)]) hc dX6_poor_98 rfl (by decide) rfl ?_
              refine r_iinc (pc := 99) (q := 3) (v := 2) (lv' := [(4, _), (3, _), (6, _), (5, _), (0, _), (1, _), (2, _)]) hc dX6_poor_99 rfl (by decide) (by decide) rfl ?_
              refine r_goto (pc := 102) (tgt := 15) hc dX6_poor_102 (by decide) ?_
              refine r_iload (pc := 15) hc 0 dX6_poor_15 rfl ?_
              refine r_iconst (pc := 17) (v := 3) hc dX6_poor_17 rfl ?_
              refine r_icmp_ge (pc := 18) (tgt := 105) hc dX6_poor_18 (by decide) (fun h => absurd h (by decide)) (fun _ => ?_)
              refine r_bipush (pc := 21) (v := 8) hc dX6_poor_21 (by decide) ?_
              refine r_iload (pc := 23) hc 0 dX6_poor_23 rfl ?_
              refine r_imul (pc := 25) hc dX6_poor_25 ?_
              refine r_iload_n (pc := 26) hc 6 dX6_poor_26 rfl rfl ?_
              refine r_iadd (pc := 27) hc dX6_poor_27 ?_
              refine r_istore (pc := 28) (lv' := [(5, _), (4, _), (3, _), (6, _), (0, _), (1, _), (2, _)]) hc dX6_poor_28 (by decide) rfl ?_
              refine r_aload_n (pc := 30) hc 4 dX6_poor_30 rfl rfl ?_
              refine r_getr (pc := 31) (j := 35) hc 0 kk6 (by decide) rfl (by decide) kF_X6_7 rfl rfl dX6_poor_31 ?_
              refine r_bipush (pc := 34) (v := 11) hc dX6_poor_34 (by decide) ?_
              refine r_iload (pc := 36) hc 0 dX6_poor_36 rfl ?_
              refine r_iadd (pc := 38) hc dX6_poor_38 ?_
              obtain ⟨hs16, hok⟩ := hok
              refine r_iald (pc := 39) (k := _) hc (by decide) rfl hs16 rfl dX6_poor_39 ?_
              refine r_aload_n (pc := 40) hc 4 dX6_poor_40 rfl rfl ?_
              refine r_getr (pc := 41) (j := 35) hc 0 kk6 (by decide) rfl (by decide) kF_X6_7 rfl rfl dX6_poor_41 ?_
              refine r_bipush (pc := 44) (v := 35) hc dX6_poor_44 (by decide) ?_
              refine r_iload (pc := 46) hc 1 dX6_poor_46 rfl ?_
              refine r_iadd (pc := 48) hc dX6_poor_48 ?_
              refine r_iald (pc := 49) (k := 37) hc (by decide) rfl (by unfold vp_in; decide) (by decide) dX6_poor_49 ?_
              refine r_iadd (pc := 50) hc dX6_poor_50 ?_
              refine r_aload_n (pc := 51) hc 4 dX6_poor_51 rfl rfl ?_
              refine r_getr (pc := 52) (j := 35) hc 0 kk6 (by decide) rfl (by decide) kF_X6_7 rfl rfl dX6_poor_52 ?_
              refine r_bipush (pc := 55) (v := 38) hc dX6_poor_55 (by decide) ?_
              refine r_iload (pc := 57) hc 0 dX6_poor_57 rfl ?_
              refine r_iadd (pc := 59) hc dX6_poor_59 ?_
              obtain ⟨hs17, hok⟩ := hok
              refine r_iald (pc := 60) (k := _) hc (by decide) rfl hs17 rfl dX6_poor_60 ?_
              refine r_isub (pc := 61) hc dX6_poor_61 ?_
              refine r_istore (pc := 62) (lv' := [(6, _), (5, _), (4, _), (3, _), (0, _), (1, _), (2, _)]) hc dX6_poor_62 (by decide) rfl ?_
              refine r_iload_n (pc := 64) hc 3 dX6_poor_64 rfl rfl ?_
              refine r_if_ne (pc := 65) (tgt := 93) hc dX6_poor_65 (by decide) (fun h => absurd (by decide) h) (fun _ => ?_)
              refine r_iload (pc := 68) hc 0 dX6_poor_68 rfl ?_
              refine r_aload_n (pc := 70) hc 4 dX6_poor_70 rfl rfl ?_
              refine r_getr (pc := 71) (j := 35) hc 0 kk6 (by decide) rfl (by decide) kF_X6_7 rfl rfl dX6_poor_71 ?_
              refine r_bipush (pc := 74) (v := 7) hc dX6_poor_74 (by decide) ?_
              refine r_iald (pc := 76) (k := 7) hc (by decide) rfl (by unfold vp_in; decide) (by decide) dX6_poor_76 ?_
              refine r_icmp_gt (pc := 77) (tgt := 93) hc dX6_poor_77 (by decide) (fun c77 => ?_) (fun c77 => ?_)
              · have hok := hok.1 c77
                have hq := o_qp hq c77
                refine r_iconst (pc := 93) (v := 1) hc dX6_poor_93 rfl ?_
                refine r_goto (pc := 94) (tgt := 98) hc dX6_poor_94 (by decide) ?_
                refine r_istore_n (pc := 98) (lv' := [(3, _), (6, _), (5, _), (4, _), (0, _), (1, _), (2, _)]) hc dX6_poor_98 rfl (by decide) rfl ?_
                refine r_iinc (pc := 99) (q := 3) (v := 3) (lv' := [(4, _), (3, _), (6, _), (5, _), (0, _), (1, _), (2, _)]) hc dX6_poor_99 rfl (by decide) (by decide) rfl ?_
                refine r_goto (pc := 102) (tgt := 15) hc dX6_poor_102 (by decide) ?_
                refine r_iload (pc := 15) hc 0 dX6_poor_15 rfl ?_
                refine r_iconst (pc := 17) (v := 3) hc dX6_poor_17 rfl ?_
                refine r_icmp_ge (pc := 18) (tgt := 105) hc dX6_poor_18 (by decide) (fun _ => ?_) (fun h => absurd (by decide) h)
                refine r_iload_n (pc := 105) hc 5 dX6_poor_105 rfl rfl ?_
                refine r_iload_n (pc := 106) hc 1 dX6_poor_106 rfl rfl ?_
                refine r_if_eq (pc := 107) (tgt := 114) hc dX6_poor_107 (by decide) (fun h => absurd h (by decide)) (fun _ => ?_)
                refine r_iconst (pc := 110) (v := 1) hc dX6_poor_110 rfl ?_
                refine r_goto (pc := 111) (tgt := 115) hc dX6_poor_111 (by decide) ?_
                refine r_iadd (pc := 115) hc dX6_poor_115 ?_
                refine r_istore_n (pc := 116) (lv' := [(1, _), (4, _), (3, _), (6, _), (5, _), (0, _), (2, _)]) hc dX6_poor_116 rfl (by decide) rfl ?_
                refine r_iinc (pc := 117) (q := 6) (v := _ + 1) (lv' := [(2, _), (1, _), (4, _), (3, _), (6, _), (5, _), (0, _)]) hc dX6_poor_117 rfl rfl (by decide) rfl ?_
                refine r_goto (pc := 120) (tgt := 4) hc dX6_poor_120 (by decide) ?_
                exact o_V.sub (ih _ _ _ hok hq) [6, 1, 0] rfl
              · have hok := hok.2 c77
                have hq := o_qn hq c77
                refine r_iload (pc := 80) hc 0 dX6_poor_80 rfl ?_
                refine r_aload_n (pc := 82) hc 4 dX6_poor_82 rfl rfl ?_
                refine r_getr (pc := 83) (j := 35) hc 0 kk6 (by decide) rfl (by decide) kF_X6_7 rfl rfl dX6_poor_83 ?_
                refine r_bipush (pc := 86) (v := 7) hc dX6_poor_86 (by decide) ?_
                refine r_iald (pc := 88) (k := 7) hc (by decide) rfl (by unfold vp_in; decide) (by decide) dX6_poor_88 ?_
                refine r_ineg (pc := 89) hc dX6_poor_89 ?_
                refine r_icmp_ge (pc := 90) (tgt := 97) hc dX6_poor_90 (by decide) (fun c90 => ?_) (fun c90 => ?_)
                · have hok := hok.1 c90
                  have hq := o_qp hq c90
                  refine r_iconst (pc := 97) (v := 0) hc dX6_poor_97 rfl ?_
                  refine r_istore_n (pc := 98) (lv' := [(3, _), (6, _), (5, _), (4, _), (0, _), (1, _), (2, _)]) hc dX6_poor_98 rfl (by decide) rfl ?_
                  refine r_iinc (pc := 99) (q := 3) (v := 3) (lv' := [(4, _), (3, _), (6, _), (5, _), (0, _), (1, _), (2, _)]) hc dX6_poor_99 rfl (by decide) (by decide) rfl ?_
                  refine r_goto (pc := 102) (tgt := 15) hc dX6_poor_102 (by decide) ?_
                  refine r_iload (pc := 15) hc 0 dX6_poor_15 rfl ?_
                  refine r_iconst (pc := 17) (v := 3) hc dX6_poor_17 rfl ?_
                  refine r_icmp_ge (pc := 18) (tgt := 105) hc dX6_poor_18 (by decide) (fun _ => ?_) (fun h => absurd (by decide) h)
                  refine r_iload_n (pc := 105) hc 5 dX6_poor_105 rfl rfl ?_
                  refine r_iload_n (pc := 106) hc 1 dX6_poor_106 rfl rfl ?_
                  refine r_if_eq (pc := 107) (tgt := 114) hc dX6_poor_107 (by decide) (fun _ => ?_) (fun h => absurd (by decide) h)
                  refine r_iconst (pc := 114) (v := 0) hc dX6_poor_114 rfl ?_
                  refine r_iadd (pc := 115) hc dX6_poor_115 ?_
                  refine r_istore_n (pc := 116) (lv' := [(1, _), (4, _), (3, _), (6, _), (5, _), (0, _), (2, _)]) hc dX6_poor_116 rfl (by decide) rfl ?_
                  refine r_iinc (pc := 117) (q := 6) (v := _ + 1) (lv' := [(2, _), (1, _), (4, _), (3, _), (6, _), (5, _), (0, _)]) hc dX6_poor_117 rfl rfl (by decide) rfl ?_
                  refine r_goto (pc := 120) (tgt := 4) hc dX6_poor_120 (by decide) ?_
                  exact o_V.sub (ih _ _ _ hok hq) [6, 1, 0] rfl
                · have hok := hok.2 c90
                  have hq := o_qn hq c90
                  refine r_iconst (pc := 93) (v := 1) hc dX6_poor_93 rfl ?_
                  refine r_goto (pc := 94) (tgt := 98) hc dX6_poor_94 (by decide) ?_
                  refine r_istore_n (pc := 98) (lv' := [(3, _), (6, _), (5, _), (4, _), (0, _), (1, _), (2, _)]) hc dX6_poor_98 rfl (by decide) rfl ?_
                  refine r_iinc (pc := 99) (q := 3) (v := 3) (lv' := [(4, _), (3, _), (6, _), (5, _), (0, _), (1, _), (2, _)]) hc dX6_poor_99 rfl (by decide) (by decide) rfl ?_
                  refine r_goto (pc := 102) (tgt := 15) hc dX6_poor_102 (by decide) ?_
                  refine r_iload (pc := 15) hc 0 dX6_poor_15 rfl ?_
                  refine r_iconst (pc := 17) (v := 3) hc dX6_poor_17 rfl ?_
                  refine r_icmp_ge (pc := 18) (tgt := 105) hc dX6_poor_18 (by decide) (fun _ => ?_) (fun h => absurd (by decide) h)
                  refine r_iload_n (pc := 105) hc 5 dX6_poor_105 rfl rfl ?_
                  refine r_iload_n (pc := 106) hc 1 dX6_poor_106 rfl rfl ?_
                  refine r_if_eq (pc := 107) (tgt := 114) hc dX6_poor_107 (by decide) (fun h => absurd h (by decide)) (fun _ => ?_)
                  refine r_iconst (pc := 110) (v := 1) hc dX6_poor_110 rfl ?_
                  refine r_goto (pc := 111) (tgt := 115) hc dX6_poor_111 (by decide) ?_
                  refine r_iadd (pc := 115) hc dX6_poor_115 ?_
                  refine r_istore_n (pc := 116) (lv' := [(1, _), (4, _), (3, _), (6, _), (5, _), (0, _), (2, _)]) hc dX6_poor_116 rfl (by decide) rfl ?_
                  refine r_iinc (pc := 117) (q := 6) (v := _ + 1) (lv' := [(2, _), (1, _), (4, _), (3, _), (6, _), (5, _), (0, _)]) hc dX6_poor_117 rfl rfl (by decide) rfl ?_
                  refine r_goto (pc := 120) (tgt := 4) hc dX6_poor_120 (by decide) ?_
                  exact o_V.sub (ih _ _ _ hok hq) [6, 1, 0] rfl
            · have hok := hok.2 c90
              have hq := o_qn hq c90
              refine r_iconst (pc := 93) (v := 1) hc dX6_poor_93 rfl ?_
              refine r_goto (pc := 94) (tgt := 98) hc dX6_poor_94 (by decide) ?_
              refine r_istore_n (pc := 98) (lv' := [(3, _), (6, _), (5, _), (4, _), (0, _), (1, _), (2, _)]) hc dX6_poor_98 rfl (by decide) rfl ?_
              refine r_iinc (pc := 99) (q := 3) (v := 2) (lv' := [(4, _), (3, _), (6, _), (5, _), (0, _), (1, _), (2, _)]) hc dX6_poor_99 rfl (by decide) (by decide) rfl ?_
              refine r_goto (pc := 102) (tgt := 15) hc dX6_poor_102 (by decide) ?_
              refine r_iload (pc := 15) hc 0 dX6_poor_15 rfl ?_
              refine r_iconst (pc := 17) (v := 3) hc dX6_poor_17 rfl ?_
              refine r_icmp_ge (pc := 18) (tgt := 105) hc dX6_poor_18 (by decide) (fun h => absurd h (by decide)) (fun _ => ?_)
              refine r_bipush (pc := 21) (v := 8) hc dX6_poor_21 (by decide) ?_
              refine r_iload (pc := 23) hc 0 dX6_poor_23 rfl ?_
              refine r_imul (pc := 25) hc dX6_poor_25 ?_
              refine r_iload_n (pc := 26) hc 6 dX6_poor_26 rfl rfl ?_
              refine r_iadd (pc := 27) hc dX6_poor_27 ?_
              refine r_istore (pc := 28) (lv' := [(5, _), (4, _), (3, _), (6, _), (0, _), (1, _), (2, _)]) hc dX6_poor_28 (by decide) rfl ?_
              refine r_aload_n (pc := 30) hc 4 dX6_poor_30 rfl rfl ?_
              refine r_getr (pc := 31) (j := 35) hc 0 kk6 (by decide) rfl (by decide) kF_X6_7 rfl rfl dX6_poor_31 ?_
              refine r_bipush (pc := 34) (v := 11) hc dX6_poor_34 (by decide) ?_
              refine r_iload (pc := 36) hc 0 dX6_poor_36 rfl ?_
              refine r_iadd (pc := 38) hc dX6_poor_38 ?_
              obtain ⟨hs19, hok⟩ := hok
              refine r_iald (pc := 39) (k := _) hc (by decide) rfl hs19 rfl dX6_poor_39 ?_
              refine r_aload_n (pc := 40) hc 4 dX6_poor_40 rfl rfl ?_
              refine r_getr (pc := 41) (j := 35) hc 0 kk6 (by decide) rfl (by decide) kF_X6_7 rfl rfl dX6_poor_41 ?_
              refine r_bipush (pc := 44) (v := 35) hc dX6_poor_44 (by decide) ?_
              refine r_iload (pc := 46) hc 1 dX6_poor_46 rfl ?_
              refine r_iadd (pc := 48) hc dX6_poor_48 ?_
              refine r_iald (pc := 49) (k := 37) hc (by decide) rfl (by unfold vp_in; decide) (by decide) dX6_poor_49 ?_
              refine r_iadd (pc := 50) hc dX6_poor_50 ?_
              refine r_aload_n (pc := 51) hc 4 dX6_poor_51 rfl rfl ?_
              refine r_getr (pc := 52) (j := 35) hc 0 kk6 (by decide) rfl (by decide) kF_X6_7 rfl rfl dX6_poor_52 ?_
              refine r_bipush (pc := 55) (v := 38) hc dX6_poor_55 (by decide) ?_
              refine r_iload (pc := 57) hc 0 dX6_poor_57 rfl ?_
              refine r_iadd (pc := 59) hc dX6_poor_59 ?_
              obtain ⟨hs20, hok⟩ := hok
              refine r_iald (pc := 60) (k := _) hc (by decide) rfl hs20 rfl dX6_poor_60 ?_
              refine r_isub (pc := 61) hc dX6_poor_61 ?_
              refine r_istore (pc := 62) (lv' := [(6, _), (5, _), (4, _), (3, _), (0, _), (1, _), (2, _)]) hc dX6_poor_62 (by decide) rfl ?_
              refine r_iload_n (pc := 64) hc 3 dX6_poor_64 rfl rfl ?_
              refine r_if_ne (pc := 65) (tgt := 93) hc dX6_poor_65 (by decide) (fun _ => ?_) (fun h => absurd h (by decide))
              refine r_iconst (pc := 93) (v := 1) hc dX6_poor_93 rfl ?_
              refine r_goto (pc := 94) (tgt := 98) hc dX6_poor_94 (by decide) ?_
              refine r_istore_n (pc := 98) (lv' := [(3, _), (6, _), (5, _), (4, _), (0, _), (1, _), (2, _)]) hc dX6_poor_98 rfl (by decide) rfl ?_
              refine r_iinc (pc := 99) (q := 3) (v := 3) (lv' := [(4, _), (3, _), (6, _), (5, _), (0, _), (1, _), (2, _)]) hc dX6_poor_99 rfl (by decide) (by decide) rfl ?_
              refine r_goto (pc := 102) (tgt := 15) hc dX6_poor_102 (by decide) ?_
              refine r_iload (pc := 15) hc 0 dX6_poor_15 rfl ?_
              refine r_iconst (pc := 17) (v := 3) hc dX6_poor_17 rfl ?_
              refine r_icmp_ge (pc := 18) (tgt := 105) hc dX6_poor_18 (by decide) (fun _ => ?_) (fun h => absurd (by decide) h)
              refine r_iload_n (pc := 105) hc 5 dX6_poor_105 rfl rfl ?_
              refine r_iload_n (pc := 106) hc 1 dX6_poor_106 rfl rfl ?_
              refine r_if_eq (pc := 107) (tgt := 114) hc dX6_poor_107 (by decide) (fun h => absurd h (by decide)) (fun _ => ?_)
              refine r_iconst (pc := 110) (v := 1) hc dX6_poor_110 rfl ?_
              refine r_goto (pc := 111) (tgt := 115) hc dX6_poor_111 (by decide) ?_
              refine r_iadd (pc := 115) hc dX6_poor_115 ?_
              refine r_istore_n (pc := 116) (lv' := [(1, _), (4, _), (3, _), (6, _), (5, _), (0, _), (2, _)]) hc dX6_poor_116 rfl (by decide) rfl ?_
              refine r_iinc (pc := 117) (q := 6) (v := _ + 1) (lv' := [(2, _), (1, _), (4, _), (3, _), (6, _), (5, _), (0, _)]) hc dX6_poor_117 rfl rfl (by decide) rfl ?_
              refine r_goto (pc := 120) (tgt := 4) hc dX6_poor_120 (by decide) ?_
              exact o_V.sub (ih _ _ _ hok hq) [6, 1, 0] rfl
        · have hok := hok.2 c90
          have hq := o_qn hq c90
          refine r_iconst (pc := 93) (v := 1) hc dX6_poor_93 rfl ?_
          refine r_goto (pc := 94) (tgt := 98) hc dX6_poor_94 (by decide) ?_
          refine r_istore_n (pc := 98) (lv' := [(3, _), (6, _), (5, _), (4, _), (0, _), (1, _), (2, _)]) hc dX6_poor_98 rfl (by decide) rfl ?_
          refine r_iinc (pc := 99) (q := 3) (v := 1) (lv' := [(4, _), (3, _), (6, _), (5, _), (0, _), (1, _), (2, _)]) hc dX6_poor_99 rfl (by decide) (by decide) rfl ?_
          refine r_goto (pc := 102) (tgt := 15) hc dX6_poor_102 (by decide) ?_
          refine r_iload (pc := 15) hc 0 dX6_poor_15 rfl ?_
          refine r_iconst (pc := 17) (v := 3) hc dX6_poor_17 rfl ?_
          refine r_icmp_ge (pc := 18) (tgt := 105) hc dX6_poor_18 (by decide) (fun h => absurd h (by decide)) (fun _ => ?_)
          refine r_bipush (pc := 21) (v := 8) hc dX6_poor_21 (by decide) ?_
          refine r_iload (pc := 23) hc 0 dX6_poor_23 rfl ?_
          refine r_imul (pc := 25) hc dX6_poor_25 ?_
          refine r_iload_n (pc := 26) hc 6 dX6_poor_26 rfl rfl ?_
          refine r_iadd (pc := 27) hc dX6_poor_27 ?_
          refine r_istore (pc := 28) (lv' := [(5, _), (4, _), (3, _), (6, _), (0, _), (1, _), (2, _)]) hc dX6_poor_28 (by decide) rfl ?_
          refine r_aload_n (pc := 30) hc 4 dX6_poor_30 rfl rfl ?_
          refine r_getr (pc := 31) (j := 35) hc 0 kk6 (by decide) rfl (by decide) kF_X6_7 rfl rfl dX6_poor_31 ?_
          refine r_bipush (pc := 34) (v := 11) hc dX6_poor_34 (by decide) ?_
          refine r_iload (pc := 36) hc 0 dX6_poor_36 rfl ?_
          refine r_iadd (pc := 38) hc dX6_poor_38 ?_
          obtain ⟨hs22, hok⟩ := hok
          refine r_iald (pc := 39) (k := _) hc (by decide) rfl hs22 rfl dX6_poor_39 ?_
          refine r_aload_n (pc := 40) hc 4 dX6_poor_40 rfl rfl ?_
          refine r_getr (pc := 41) (j := 35) hc 0 kk6 (by decide) rfl (by decide) kF_X6_7 rfl rfl dX6_poor_41 ?_
          refine r_bipush (pc := 44) (v := 35) hc dX6_poor_44 (by decide) ?_
          refine r_iload (pc := 46) hc 1 dX6_poor_46 rfl ?_
          refine r_iadd (pc := 48) hc dX6_poor_48 ?_
          refine r_iald (pc := 49) (k := 36) hc (by decide) rfl (by unfold vp_in; decide) (by decide) dX6_poor_49 ?_
          refine r_iadd (pc := 50) hc dX6_poor_50 ?_
          refine r_aload_n (pc := 51) hc 4 dX6_poor_51 rfl rfl ?_
          refine r_getr (pc := 52) (j := 35) hc 0 kk6 (by decide) rfl (by decide) kF_X6_7 rfl rfl dX6_poor_52 ?_
          refine r_bipush (pc := 55) (v := 38) hc dX6_poor_55 (by decide) ?_
          refine r_iload (pc := 57) hc 0 dX6_poor_57 rfl ?_
          refine r_iadd (pc := 59) hc dX6_poor_59 ?_
          obtain ⟨hs23, hok⟩ := hok
          refine r_iald (pc := 60) (k := _) hc (by decide) rfl hs23 rfl dX6_poor_60 ?_
          refine r_isub (pc := 61) hc dX6_poor_61 ?_
          refine r_istore (pc := 62) (lv' := [(6, _), (5, _), (4, _), (3, _), (0, _), (1, _), (2, _)]) hc dX6_poor_62 (by decide) rfl ?_
          refine r_iload_n (pc := 64) hc 3 dX6_poor_64 rfl rfl ?_
          refine r_if_ne (pc := 65) (tgt := 93) hc dX6_poor_65 (by decide) (fun _ => ?_) (fun h => absurd h (by decide))
          refine r_iconst (pc := 93) (v := 1) hc dX6_poor_93 rfl ?_
          refine r_goto (pc := 94) (tgt := 98) hc dX6_poor_94 (by decide) ?_
          refine r_istore_n (pc := 98) (lv' := [(3, _), (6, _), (5, _), (4, _), (0, _), (1, _), (2, _)]) hc dX6_poor_98 rfl (by decide) rfl ?_
          refine r_iinc (pc := 99) (q := 3) (v := 2) (lv' := [(4, _), (3, _), (6, _), (5, _), (0, _), (1, _), (2, _)]) hc dX6_poor_99 rfl (by decide) (by decide) rfl ?_
          refine r_goto (pc := 102) (tgt := 15) hc dX6_poor_102 (by decide) ?_
          refine r_iload (pc := 15) hc 0 dX6_poor_15 rfl ?_
          refine r_iconst (pc := 17) (v := 3) hc dX6_poor_17 rfl ?_
          refine r_icmp_ge (pc := 18) (tgt := 105) hc dX6_poor_18 (by decide) (fun h => absurd h (by decide)) (fun _ => ?_)
          refine r_bipush (pc := 21) (v := 8) hc dX6_poor_21 (by decide) ?_
          refine r_iload (pc := 23) hc 0 dX6_poor_23 rfl ?_
          refine r_imul (pc := 25) hc dX6_poor_25 ?_
          refine r_iload_n (pc := 26) hc 6 dX6_poor_26 rfl rfl ?_
          refine r_iadd (pc := 27) hc dX6_poor_27 ?_
          refine r_istore (pc := 28) (lv' := [(5, _), (4, _), (3, _), (6, _), (0, _), (1, _), (2, _)]) hc dX6_poor_28 (by decide) rfl ?_
          refine r_aload_n (pc := 30) hc 4 dX6_poor_30 rfl rfl ?_
          refine r_getr (pc := 31) (j := 35) hc 0 kk6 (by decide) rfl (by decide) kF_X6_7 rfl rfl dX6_poor_31 ?_
          refine r_bipush (pc := 34) (v := 11) hc dX6_poor_34 (by decide) ?_
          refine r_iload (pc := 36) hc 0 dX6_poor_36 rfl ?_
          refine r_iadd (pc := 38) hc dX6_poor_38 ?_
          obtain ⟨hs25, hok⟩ := hok
          refine r_iald (pc := 39) (k := _) hc (by decide) rfl hs25 rfl dX6_poor_39 ?_
          refine r_aload_n (pc := 40) hc 4 dX6_poor_40 rfl rfl ?_
          refine r_getr (pc := 41) (j := 35) hc 0 kk6 (by decide) rfl (by decide) kF_X6_7 rfl rfl dX6_poor_41 ?_
          refine r_bipush (pc := 44) (v := 35) hc dX6_poor_44 (by decide) ?_
          refine r_iload (pc := 46) hc 1 dX6_poor_46 rfl ?_
          refine r_iadd (pc := 48) hc dX6_poor_48 ?_
          refine r_iald (pc := 49) (k := 37) hc (by decide) rfl (by unfold vp_in; decide) (by decide) dX6_poor_49 ?_
          refine r_iadd (pc := 50) hc dX6_poor_50 ?_
          refine r_aload_n (pc := 51) hc 4 dX6_poor_51 rfl rfl ?_
          refine r_getr (pc := 52) (j := 35) hc 0 kk6 (by decide) rfl (by decide) kF_X6_7 rfl rfl dX6_poor_52 ?_
          refine r_bipush (pc := 55) (v := 38) hc dX6_poor_55 (by decide) ?_
          refine r_iload (pc := 57) hc 0 dX6_poor_57 rfl ?_
          refine r_iadd (pc := 59) hc dX6_poor_59 ?_
          obtain ⟨hs26, hok⟩ := hok
          refine r_iald (pc := 60) (k := _) hc (by decide) rfl hs26 rfl dX6_poor_60 ?_
          refine r_isub (pc := 61) hc dX6_poor_61 ?_
          refine r_istore (pc := 62) (lv' := [(6, _), (5, _), (4, _), (3, _), (0, _), (1, _), (2, _)]) hc dX6_poor_62 (by decide) rfl ?_
          refine r_iload_n (pc := 64) hc 3 dX6_poor_64 rfl rfl ?_
          refine r_if_ne (pc := 65) (tgt := 93) hc dX6_poor_65 (by decide) (fun _ => ?_) (fun h => absurd h (by decide))
          refine r_iconst (pc := 93) (v := 1) hc dX6_poor_93 rfl ?_
          refine r_goto (pc := 94) (tgt := 98) hc dX6_poor_94 (by decide) ?_
          refine r_istore_n (pc := 98) (lv' := [(3, _), (6, _), (5, _), (4, _), (0, _), (1, _), (2, _)]) hc dX6_poor_98 rfl (by decide) rfl ?_
          refine r_iinc (pc := 99) (q := 3) (v := 3) (lv' := [(4, _), (3, _), (6, _), (5, _), (0, _), (1, _), (2, _)]) hc dX6_poor_99 rfl (by decide) (by decide) rfl ?_
          refine r_goto (pc := 102) (tgt := 15) hc dX6_poor_102 (by decide) ?_
          refine r_iload (pc := 15) hc 0 dX6_poor_15 rfl ?_
          refine r_iconst (pc := 17) (v := 3) hc dX6_poor_17 rfl ?_
          refine r_icmp_ge (pc := 18) (tgt := 105) hc dX6_poor_18 (by decide) (fun _ => ?_) (fun h => absurd (by decide) h)
          refine r_iload_n (pc := 105) hc 5 dX6_poor_105 rfl rfl ?_
          refine r_iload_n (pc := 106) hc 1 dX6_poor_106 rfl rfl ?_
          refine r_if_eq (pc := 107) (tgt := 114) hc dX6_poor_107 (by decide) (fun h => absurd h (by decide)) (fun _ => ?_)
          refine r_iconst (pc := 110) (v := 1) hc dX6_poor_110 rfl ?_
          refine r_goto (pc := 111) (tgt := 115) hc dX6_poor_111 (by decide) ?_
          refine r_iadd (pc := 115) hc dX6_poor_115 ?_
          refine r_istore_n (pc := 116) (lv' := [(1, _), (4, _), (3, _), (6, _), (5, _), (0, _), (2, _)]) hc dX6_poor_116 rfl (by decide) rfl ?_
          refine r_iinc (pc := 117) (q := 6) (v := _ + 1) (lv' := [(2, _), (1, _), (4, _), (3, _), (6, _), (5, _), (0, _)]) hc dX6_poor_117 rfl rfl (by decide) rfl ?_
          refine r_goto (pc := 120) (tgt := 4) hc dX6_poor_120 (by decide) ?_
          exact o_V.sub (ih _ _ _ hok hq) [6, 1, 0] rfl
set_option maxHeartbeats 4000000 in
set_option maxRecDepth 100000 in
theorem c_X6_poor (l : Launch) (G : Gt)   {σ : Sg} (hok : ok_X6_poor  σ) : o_Ci l G yX6_poor cX6_poor 7 (some .int) 0 0 [.ref (gAd G 34)] σ (fun r σ' => r = f_X6_poor  σ ∧ σ' = σ) := by
  refine o_Ci.of (by decide +kernel) (Nat.le_of_ble_eq_true rfl) ?_
  intro p e s m args below meth c hc hr
  have hq : ∀ q : Int32, q = f_X6_poor  σ → (fun r σ' => r = f_X6_poor  σ ∧ σ' = σ) q σ := fun q h => ⟨h, rfl⟩
  refine r_iconst (pc := 0) (v := 0) hc dX6_poor_0 rfl ?_
  refine r_istore_n (pc := 1) (lv' := [(1, _), (0, _)]) hc dX6_poor_1 rfl (by decide) rfl ?_
  refine r_iconst (pc := 2) (v := 0) hc dX6_poor_2 rfl ?_
  refine r_istore_n (pc := 3) (lv' := [(2, _), (1, _), (0, _)]) hc dX6_poor_3 rfl (by decide) rfl ?_
  exact o_V.sub (t_X6_poor_4  hc hr oF _ _ _ hok hq) [2, 1, 0] rfl
noncomputable def f_X6_power (p1 : Int32) (σ : Sg) : Int32 × Sg :=
  o_ite ((f_X6_in p1 0 1 σ) = 0) (
    ((-1), σ)) (
    let q3 := f_X6_puts 1 p1 σ
    (q3.1, q3.2))
def ok_X6_power (p1 : Int32) (σ : Sg) : Prop :=
  (ok_X6_in p1 0 1 σ) ∧ ((((f_X6_in p1 0 1 σ) = 0) →
    True) ∧ (¬ ((f_X6_in p1 0 1 σ) = 0) →
    (ok_X6_puts 1 p1 σ) ∧ (let q3 := f_X6_puts 1 p1 σ
    True)))
set_option maxHeartbeats 4000000 in
set_option maxRecDepth 100000 in
theorem c_X6_power (l : Launch) (G : Gt) {p1 : Int32}  {σ : Sg} (hok : ok_X6_power p1 σ) : o_Ci l G yX6_power cX6_power 2 (some .int) 2 44 [.ref (gAd G 34), .int p1] σ (fun r σ' => r = (f_X6_power p1 σ).1 ∧ σ' = (f_X6_power p1 σ).2) := by
  refine o_Ci.of (by decide +kernel) (Nat.le_of_ble_eq_true rfl) ?_
  intro p e s m args below meth c hc hr
  have hq : ∀ q : Int32 × Sg, q = f_X6_power p1 σ → (fun r σ' => r = (f_X6_power p1 σ).1 ∧ σ' = (f_X6_power p1 σ).2) q.1 q.2 := fun q h => ⟨congrArg Prod.fst h, congrArg Prod.snd h⟩
  refine r_iload_n (pc := 0) hc 1 dX6_power_0 rfl rfl ?_
  refine r_iconst (pc := 1) (v := 0) hc dX6_power_1 rfl ?_
  refine r_iconst (pc := 2) (v := 1) hc dX6_power_2 rfl ?_
  obtain ⟨hs1, hok⟩ := hok
  refine r_callS_i (pc := 3) (as := [.int _, .int _, .int _]) hc (c_X6_in l G hs1) mS_X6_in kM_X6_32 ⟨Nat.le_of_ble_eq_true rfl, Nat.le_of_ble_eq_true rfl⟩ ⟨Nat.le_refl 0, Nat.le_refl 0⟩ rfl rfl (Nat.le_of_ble_eq_true rfl) dX6_power_3 (fun r σ' h => ?_)
  obtain ⟨rfl, rfl⟩ := h
  refine r_if_eq (pc := 6) (tgt := 18) hc dX6_power_6 (by decide) (fun c6 => ?_) (fun c6 => ?_)
  · have hok := hok.1 c6
    have hq := o_qp hq c6
    refine r_iconst (pc := 18) (v := (-1)) hc dX6_power_18 rfl ?_
    exact r_iret hc hr rfl dX6_power_19 (hq (_, _) rfl)
  · have hok := hok.2 c6
    have hq := o_qn hq c6
    refine r_aload_n (pc := 9) hc 0 dX6_power_9 rfl rfl ?_
    refine r_iconst (pc := 10) (v := 1) hc dX6_power_10 rfl ?_
    refine r_iload_n (pc := 11) hc 1 dX6_power_11 rfl rfl ?_
    obtain ⟨hs2, hok⟩ := hok
    refine r_callV_i (pc := 12) (as := [.int _, .int _]) hc (c_X6_puts l G hs2) kk6 (by decide) rfl mV_X6_puts kM_X6_52 ⟨Nat.le_of_ble_eq_true rfl, Nat.le_of_ble_eq_true rfl⟩ ⟨Nat.le_refl 0, Nat.le_refl 0⟩ rfl rfl (Nat.le_of_ble_eq_true rfl) dX6_power_12 (fun r σ' h => ?_)
    obtain ⟨rfl, rfl⟩ := h
    refine r_goto (pc := 15) (tgt := 19) hc dX6_power_15 (by decide) ?_
    exact r_iret hc hr rfl dX6_power_19 (hq (_, _) rfl)
noncomputable def f_X6_reading (p1 : Int32) (σ : Sg) : Int32 :=
  o_ite ((f_X6_isTrack p1 σ) = 0) (
    (-1)) (
    (f_X6_readingAt p1 (f_X6_angle σ) σ))
def ok_X6_reading (p1 : Int32) (σ : Sg) : Prop :=
  (ok_X6_isTrack p1 σ) ∧ ((((f_X6_isTrack p1 σ) = 0) →
    True) ∧ (¬ ((f_X6_isTrack p1 σ) = 0) →
    (ok_X6_angle σ) ∧ ((ok_X6_readingAt p1 (f_X6_angle σ) σ) ∧ (True))))
set_option maxHeartbeats 4000000 in
set_option maxRecDepth 100000 in
theorem c_X6_reading (l : Launch) (G : Gt) {p1 : Int32}  {σ : Sg} (hok : ok_X6_reading p1 σ) : o_Ci l G yX6_reading cX6_reading 2 (some .int) 2 44 [.ref (gAd G 34), .int p1] σ (fun r σ' => r = f_X6_reading p1 σ ∧ σ' = σ) := by
  refine o_Ci.of (by decide +kernel) (Nat.le_of_ble_eq_true rfl) ?_
  intro p e s m args below meth c hc hr
  have hq : ∀ q : Int32, q = f_X6_reading p1 σ → (fun r σ' => r = f_X6_reading p1 σ ∧ σ' = σ) q σ := fun q h => ⟨h, rfl⟩
  refine r_iload_n (pc := 0) hc 1 dX6_reading_0 rfl rfl ?_
  obtain ⟨hs1, hok⟩ := hok
  refine r_callS_i (pc := 1) (as := [.int _]) hc (c_X6_isTrack l G hs1) mS_X6_isTrack kM_X6_36 ⟨Nat.le_of_ble_eq_true rfl, Nat.le_of_ble_eq_true rfl⟩ ⟨Nat.le_refl 0, Nat.le_refl 0⟩ rfl rfl (Nat.le_of_ble_eq_true rfl) dX6_reading_1 (fun r σ' h => ?_)
  obtain ⟨rfl, rfl⟩ := h
  refine r_if_eq (pc := 4) (tgt := 19) hc dX6_reading_4 (by decide) (fun c4 => ?_) (fun c4 => ?_)
  · have hok := hok.1 c4
    have hq := o_qp hq c4
    refine r_iconst (pc := 19) (v := (-1)) hc dX6_reading_19 rfl ?_
    exact r_iret hc hr rfl dX6_reading_20 (hq _ rfl)
  · have hok := hok.2 c4
    have hq := o_qn hq c4
    refine r_aload_n (pc := 7) hc 0 dX6_reading_7 rfl rfl ?_
    refine r_iload_n (pc := 8) hc 1 dX6_reading_8 rfl rfl ?_
    refine r_aload_n (pc := 9) hc 0 dX6_reading_9 rfl rfl ?_
    obtain ⟨hs2, hok⟩ := hok
    refine r_callV_i (pc := 10) (as := []) hc (c_X6_angle l G hs2) kk6 (by decide) rfl mV_X6_angle kM_X6_55 ⟨Nat.le_of_ble_eq_true rfl, Nat.le_of_ble_eq_true rfl⟩ ⟨Nat.le_refl 0, Nat.le_refl 0⟩ rfl rfl (Nat.le_of_ble_eq_true rfl) dX6_reading_10 (fun r σ' h => ?_)
    obtain ⟨rfl, rfl⟩ := h
    obtain ⟨hs3, hok⟩ := hok
    refine r_callV_i (pc := 13) (as := [.int _, .int _]) hc (c_X6_readingAt l G hs3) kk6 (by decide) rfl mV_X6_readingAt kM_X6_79 ⟨Nat.le_of_ble_eq_true rfl, Nat.le_of_ble_eq_true rfl⟩ ⟨Nat.le_refl 0, Nat.le_refl 0⟩ rfl rfl (Nat.le_of_ble_eq_true rfl) dX6_reading_13 (fun r σ' h => ?_)
    obtain ⟨rfl, rfl⟩ := h
    refine r_goto (pc := 16) (tgt := 20) hc dX6_reading_16 (by decide) ?_
    exact r_iret hc hr rfl dX6_reading_20 (hq _ rfl)
noncomputable def f_X6_why_46   (σ : Sg) : Int32 :=
  o_ite ((σ 35 5) = (-1)) (
    0) (
    o_ite ((f_X6_off (f_X6_placeFound σ) (σ 35 5) 65280 σ) ≤ (σ 35 9)) (
      0) (
      4))
def ok_X6_why_46   (σ : Sg) : Prop :=
  (((σ 35 5) = (-1)) →
    True) ∧ (¬ ((σ 35 5) = (-1)) →
    (ok_X6_placeFound σ) ∧ ((ok_X6_off (f_X6_placeFound σ) (σ 35 5) 65280 σ) ∧ ((((f_X6_off (f_X6_placeFound σ) (σ 35 5) 65280 σ) ≤ (σ 35 9)) →
      True) ∧ (¬ ((f_X6_off (f_X6_placeFound σ) (σ 35 5) 65280 σ) ≤ (σ 35 9)) →
      True))))
noncomputable def f_X6_why  (σ : Sg) : Int32 :=
  o_ite ((σ 34 6) ≤ (σ 35 7)) (
    o_ite ((f_X6_fitting σ) = (-1)) (
      2) (
      o_ite ((f_X6_isCoarseApart σ) = 0) (
        f_X6_why_46 σ) (
        o_ite ((σ 35 6) < 2) (
          f_X6_why_46 σ) (
          3)))) (
    1)
def ok_X6_why  (σ : Sg) : Prop :=
  (((σ 34 6) ≤ (σ 35 7)) →
    (ok_X6_fitting σ) ∧ ((((f_X6_fitting σ) = (-1)) →
      True) ∧ (¬ ((f_X6_fitting σ) = (-1)) →
      (ok_X6_isCoarseApart σ) ∧ ((((f_X6_isCoarseApart σ) = 0) →
        ok_X6_why_46 σ) ∧ (¬ ((f_X6_isCoarseApart σ) = 0) →
        (((σ 35 6) < 2) →
          ok_X6_why_46 σ) ∧ (¬ ((σ 35 6) < 2) →
          True)))))) ∧ (¬ ((σ 34 6) ≤ (σ 35 7)) →
    True)
set_option maxHeartbeats 4000000 in
set_option maxRecDepth 100000 in
theorem t_X6_why_46 {p : Program} {l : Launch} {e : Env} {s : State} {m : MethodId} {args : Array Value} {below : List Frame} {meth : Method} {c : Code} {G : Gt} {post : Int32 → Sg → Prop}   (hc : o_Cx p s m args meth c G cX6_why yX6_why.cls 1) (hr : meth.sig.returnType = (some .int))  {σ : Sg} (hok : ok_X6_why_46   σ) (hq : ∀ q : Int32, q = f_X6_why_46   σ → post q σ) : o_V p l e { frames := 3, cells := 0, slots := 0, locals := 65 } s m args below meth c (MQ below (va_Qi post (fun σ' t => o_W G σ' t.heap) (o_A G)) args s 0 0 (o_A G)) G 0 0 1 σ 46 [(0, .ref (gAd G 34))] [] := by
  refine r_aload_n (pc := 46) hc 0 dX6_why_46 rfl rfl ?_
  refine r_getr (pc := 47) (j := 35) hc 0 kk6 (by decide) rfl (by decide) kF_X6_7 rfl rfl dX6_why_47 ?_
  refine r_iconst (pc := 50) (v := 5) hc dX6_why_50 rfl ?_
  refine r_iald (pc := 51) (k := 5) hc (by decide) rfl (by unfold vp_in; decide) (by decide) dX6_why_51 ?_
  refine r_iconst (pc := 52) (v := (-1)) hc dX6_why_52 rfl ?_
  refine r_icmp_eq (pc := 53) (tgt := 85) hc dX6_why_53 (by decide) (fun c53 => ?_) (fun c53 => ?_)
  · have hok := hok.1 c53
    have hq := o_qp hq c53
    refine r_iconst (pc := 85) (v := 0) hc dX6_why_85 rfl ?_
    exact r_iret hc hr rfl dX6_why_86 (hq _ rfl)
  · have hok := hok.2 c53
    have hq := o_qn hq c53
    refine r_aload_n (pc := 56) hc 0 dX6_why_56 rfl rfl ?_
    obtain ⟨hs1, hok⟩ := hok
    refine r_callV_i (pc := 57) (as := []) hc (c_X6_placeFound l G hs1) kk6 (by decide) rfl mV_X6_placeFound kM_X6_130 ⟨Nat.le_of_ble_eq_true rfl, Nat.le_of_ble_eq_true rfl⟩ ⟨Nat.le_refl 0, Nat.le_refl 0⟩ rfl rfl (Nat.le_of_ble_eq_true rfl) dX6_why_57 (fun r σ' h => ?_)
    obtain ⟨rfl, rfl⟩ := h
    refine r_aload_n (pc := 60) hc 0 dX6_why_60 rfl rfl ?_
    refine r_getr (pc := 61) (j := 35) hc 0 kk6 (by decide) rfl (by decide) kF_X6_7 rfl rfl dX6_why_61 ?_
    refine r_iconst (pc := 64) (v := 5) hc dX6_why_64 rfl ?_
    refine r_iald (pc := 65) (k := 5) hc (by decide) rfl (by unfold vp_in; decide) (by decide) dX6_why_65 ?_
    refine r_ldc (pc := 66) (v := 65280) hc kK_X6_133 dX6_why_66 ?_
    obtain ⟨hs2, hok⟩ := hok
    refine r_callS_i (pc := 68) (as := [.int _, .int _, .int _]) hc (c_X6_off l G hs2) mS_X6_off kM_X6_119 ⟨Nat.le_of_ble_eq_true rfl, Nat.le_of_ble_eq_true rfl⟩ ⟨Nat.le_refl 0, Nat.le_refl 0⟩ rfl rfl (Nat.le_of_ble_eq_true rfl) dX6_why_68 (fun r σ' h => ?_)
    obtain ⟨rfl, rfl⟩ := h
    refine r_aload_n (pc := 71) hc 0 dX6_why_71 rfl rfl ?_
    refine r_getr (pc := 72) (j := 35) hc 0 kk6 (by decide) rfl (by decide) kF_X6_7 rfl rfl dX6_why_72 ?_
    refine r_bipush (pc := 75) (v := 9) hc dX6_why_75 (by decide) ?_
    refine r_iald (pc := 77) (k := 9) hc (by decide) rfl (by unfold vp_in; decide) (by decide) dX6_why_77 ?_
    refine r_icmp_le (pc := 78) (tgt := 85) hc dX6_why_78 (by decide) (fun c78 => ?_) (fun c78 => ?_)
    · have hok := hok.1 c78
      have hq := o_qp hq c78
      refine r_iconst (pc := 85) (v := 0) hc dX6_why_85 rfl ?_
      exact r_iret hc hr rfl dX6_why_86 (hq _ rfl)
    · have hok := hok.2 c78
      have hq := o_qn hq c78
      refine r_iconst (pc := 81) (v := 4) hc dX6_why_81 rfl ?_
      refine r_goto (pc := 82) (tgt := 86) hc dX6_why_82 (by decide) ?_
      exact r_iret hc hr rfl dX6_why_86 (hq _ rfl)
set_option maxHeartbeats 4000000 in
set_option maxRecDepth 100000 in
theorem c_X6_why (l : Launch) (G : Gt)   {σ : Sg} (hok : ok_X6_why  σ) : o_Ci l G yX6_why cX6_why 1 (some .int) 3 65 [.ref (gAd G 34)] σ (fun r σ' => r = f_X6_why  σ ∧ σ' = σ) := by
  refine o_Ci.of (by decide +kernel) (Nat.le_of_ble_eq_true rfl) ?_
  intro p e s m args below meth c hc hr
  have hq : ∀ q : Int32, q = f_X6_why  σ → (fun r σ' => r = f_X6_why  σ ∧ σ' = σ) q σ := fun q h => ⟨h, rfl⟩
  refine r_aload_n (pc := 0) hc 0 dX6_why_0 rfl rfl ?_
  refine r_geti (pc := 1) hc 6 kk6 (by decide) rfl (by decide) kF_X6_82 rfl rfl dX6_why_1 ?_
  refine r_aload_n (pc := 4) hc 0 dX6_why_4 rfl rfl ?_
  refine r_getr (pc := 5) (j := 35) hc 0 kk6 (by decide) rfl (by decide) kF_X6_7 rfl rfl dX6_why_5 ?_
  refine r_bipush (pc := 8) (v := 7) hc dX6_why_8 (by decide) ?_
  refine r_iald (pc := 10) (k := 7) hc (by decide) rfl (by unfold vp_in; decide) (by decide) dX6_why_10 ?_
  refine r_icmp_le (pc := 11) (tgt := 16) hc dX6_why_11 (by decide) (fun c11 => ?_) (fun c11 => ?_)
  · have hok := hok.1 c11
    have hq := o_qp hq c11
    refine r_aload_n (pc := 16) hc 0 dX6_why_16 rfl rfl ?_
    obtain ⟨hs1, hok⟩ := hok
    refine r_callV_i (pc := 17) (as := []) hc (c_X6_fitting l G hs1) kk6 (by decide) rfl mV_X6_fitting kM_X6_123 ⟨Nat.le_of_ble_eq_true rfl, Nat.le_of_ble_eq_true rfl⟩ ⟨Nat.le_refl 0, Nat.le_refl 0⟩ rfl rfl (Nat.le_of_ble_eq_true rfl) dX6_why_17 (fun r σ' h => ?_)
    obtain ⟨rfl, rfl⟩ := h
    refine r_iconst (pc := 20) (v := (-1)) hc dX6_why_20 rfl ?_
    refine r_icmp_ne (pc := 21) (tgt := 26) hc dX6_why_21 (by decide) (fun c21 => ?_) (fun c21 => ?_)
    · have hok := hok.2 c21
      have hq := o_qn hq c21
      refine r_aload_n (pc := 26) hc 0 dX6_why_26 rfl rfl ?_
      obtain ⟨hs2, hok⟩ := hok
      refine r_callV_i (pc := 27) (as := []) hc (c_X6_isCoarseApart l G hs2) kk6 (by decide) rfl mV_X6_isCoarseApart kM_X6_126 ⟨Nat.le_of_ble_eq_true rfl, Nat.le_of_ble_eq_true rfl⟩ ⟨Nat.le_refl 0, Nat.le_refl 0⟩ rfl rfl (Nat.le_of_ble_eq_true rfl) dX6_why_27 (fun r σ' h => ?_)
      obtain ⟨rfl, rfl⟩ := h
      refine r_if_eq (pc := 30) (tgt := 46) hc dX6_why_30 (by decide) (fun c30 => ?_) (fun c30 => ?_)
      · have hok := hok.1 c30
        have hq := o_qp hq c30
        exact o_V.sub (t_X6_why_46  hc hr hok hq) [0] rfl
      · have hok := hok.2 c30
        have hq := o_qn hq c30
        refine r_aload_n (pc := 33) hc 0 dX6_why_33 rfl rfl ?_
        refine r_getr (pc := 34) (j := 35) hc 0 kk6 (by decide) rfl (by decide) kF_X6_7 rfl rfl dX6_why_34 ?_
        refine r_bipush (pc := 37) (v := 6) hc dX6_why_37 (by decide) ?_
        refine r_iald (pc := 39) (k := 6) hc (by decide) rfl (by unfold vp_in; decide) (by decide) dX6_why_39 ?_
        refine r_iconst (pc := 40) (v := 2) hc dX6_why_40 rfl ?_
        refine r_icmp_lt (pc := 41) (tgt := 46) hc dX6_why_41 (by decide) (fun c41 => ?_) (fun c41 => ?_)
        · have hok := hok.1 c41
          have hq := o_qp hq c41
          exact o_V.sub (t_X6_why_46  hc hr hok hq) [0] rfl
        · have hok := hok.2 c41
          have hq := o_qn hq c41
          refine r_iconst (pc := 44) (v := 3) hc dX6_why_44 rfl ?_
          exact r_iret hc hr rfl dX6_why_45 (hq _ rfl)
    · have hok := hok.1 c21
      have hq := o_qp hq c21
      refine r_iconst (pc := 24) (v := 2) hc dX6_why_24 rfl ?_
      exact r_iret hc hr rfl dX6_why_25 (hq _ rfl)
  · have hok := hok.2 c11
    have hq := o_qn hq c11
    refine r_iconst (pc := 14) (v := 1) hc dX6_why_14 rfl ?_
    exact r_iret hc hr rfl dX6_why_15 (hq _ rfl)
noncomputable def f_X6_reason  (σ : Sg) : Int32 × Sg :=
  o_ite ((σ 35 1) = 0) (
    ((-2), σ)) (
    let σ3 := f_X6_looks (f_X6_angle σ) σ
    ((f_X6_why σ3), σ3))
def ok_X6_reason  (σ : Sg) : Prop :=
  (((σ 35 1) = 0) →
    True) ∧ (¬ ((σ 35 1) = 0) →
    (ok_X6_angle σ) ∧ ((ok_X6_looks (f_X6_angle σ) σ) ∧ (let σ3 := f_X6_looks (f_X6_angle σ) σ
    (ok_X6_why σ3) ∧ (True))))
set_option maxHeartbeats 4000000 in
set_option maxRecDepth 100000 in
theorem c_X6_reason (l : Launch) (G : Gt)   {σ : Sg} (hok : ok_X6_reason  σ) : o_Ci l G yX6_reason cX6_reason 1 (some .int) 4 93 [.ref (gAd G 34)] σ (fun r σ' => r = (f_X6_reason  σ).1 ∧ σ' = (f_X6_reason  σ).2) := by
  refine o_Ci.of (by decide +kernel) (Nat.le_of_ble_eq_true rfl) ?_
  intro p e s m args below meth c hc hr
  have hq : ∀ q : Int32 × Sg, q = f_X6_reason  σ → (fun r σ' => r = (f_X6_reason  σ).1 ∧ σ' = (f_X6_reason  σ).2) q.1 q.2 := fun q h => ⟨congrArg Prod.fst h, congrArg Prod.snd h⟩
  refine r_aload_n (pc := 0) hc 0 dX6_reason_0 rfl rfl ?_
  refine r_getr (pc := 1) (j := 35) hc 0 kk6 (by decide) rfl (by decide) kF_X6_7 rfl rfl dX6_reason_1 ?_
  refine r_iconst (pc := 4) (v := 1) hc dX6_reason_4 rfl ?_
  refine r_iald (pc := 5) (k := 1) hc (by decide) rfl (by unfold vp_in; decide) (by decide) dX6_reason_5 ?_
  refine r_if_ne (pc := 6) (tgt := 12) hc dX6_reason_6 (by decide) (fun c6 => ?_) (fun c6 => ?_)
  · have hok := hok.2 c6
    have hq := o_qn hq c6
    refine r_aload_n (pc := 12) hc 0 dX6_reason_12 rfl rfl ?_
    refine r_aload_n (pc := 13) hc 0 dX6_reason_13 rfl rfl ?_
    obtain ⟨hs1, hok⟩ := hok
    refine r_callV_i (pc := 14) (as := []) hc (c_X6_angle l G hs1) kk6 (by decide) rfl mV_X6_angle kM_X6_55 ⟨Nat.le_of_ble_eq_true rfl, Nat.le_of_ble_eq_true rfl⟩ ⟨Nat.le_refl 0, Nat.le_refl 0⟩ rfl rfl (Nat.le_of_ble_eq_true rfl) dX6_reason_14 (fun r σ' h => ?_)
    obtain ⟨rfl, rfl⟩ := h
    obtain ⟨hs2, hok⟩ := hok
    refine r_callV_v (pc := 17) (as := [.int _]) hc (c_X6_looks l G hs2) kk6 (by decide) rfl mV_X6_looks kM_X6_116 ⟨Nat.le_of_ble_eq_true rfl, Nat.le_of_ble_eq_true rfl⟩ ⟨Nat.le_refl 0, Nat.le_refl 0⟩ rfl rfl (Nat.le_of_ble_eq_true rfl) dX6_reason_17 (fun σ' h => ?_)
    subst h
    refine r_aload_n (pc := 20) hc 0 dX6_reason_20 rfl rfl ?_
    obtain ⟨hs4, hok⟩ := hok
    refine r_callV_i (pc := 21) (as := []) hc (c_X6_why l G hs4) kk6 (by decide) rfl mV_X6_why kM_X6_134 ⟨Nat.le_of_ble_eq_true rfl, Nat.le_of_ble_eq_true rfl⟩ ⟨Nat.le_refl 0, Nat.le_refl 0⟩ rfl rfl (Nat.le_of_ble_eq_true rfl) dX6_reason_21 (fun r σ' h => ?_)
    obtain ⟨rfl, rfl⟩ := h
    exact r_iret hc hr rfl dX6_reason_24 (hq (_, _) rfl)
  · have hok := hok.1 c6
    have hq := o_qp hq c6
    refine r_bipush (pc := 9) (v := (-2)) hc dX6_reason_9 (by decide) ?_
    exact r_iret hc hr rfl dX6_reason_11 (hq (_, _) rfl)
noncomputable def f_X6_sample_109  (x1 : Int32) (x2 : Int32) (y0 : Int32) (y1 : Int32) (σ : Sg) : Int32 × Sg :=
  let σ2 := pu σ 35 y1.toNatClampNeg y0
  o_ite (x1 = 0) (
    (x2, σ2)) (
    ((100000 + x1), σ2))
def ok_X6_sample_109  (x1 : Int32) (x2 : Int32) (y0 : Int32) (y1 : Int32) (σ : Sg) : Prop :=
  (vp_in y1 62) ∧ (let σ2 := pu σ 35 y1.toNatClampNeg y0
  ((x1 = 0) →
    True) ∧ (¬ (x1 = 0) →
    True))
noncomputable def f_X6_sample_90  (x1 : Int32) (x2 : Int32) (σ : Sg) : Int32 × Sg :=
  o_ite (x1 = 0) (
    f_X6_sample_109 x1 x2 x2 5 σ) (
    f_X6_sample_109 x1 x2 (σ 35 5) 5 σ)
def ok_X6_sample_90  (x1 : Int32) (x2 : Int32) (σ : Sg) : Prop :=
  ((x1 = 0) →
    ok_X6_sample_109 x1 x2 x2 5 σ) ∧ (¬ (x1 = 0) →
    ok_X6_sample_109 x1 x2 (σ 35 5) 5 σ)
noncomputable def f_X6_sample_79  (x1 : Int32) (x2 : Int32) (y0 : Int32) (y1 : Int32) (σ : Sg) : Int32 × Sg :=
  let σ2 := pu σ 35 y1.toNatClampNeg y0
  let σ4 := pu σ2 35 2 (f_X6_fitting σ2)
  f_X6_sample_90 x1 x2 σ4
def ok_X6_sample_79  (x1 : Int32) (x2 : Int32) (y0 : Int32) (y1 : Int32) (σ : Sg) : Prop :=
  (vp_in y1 62) ∧ (let σ2 := pu σ 35 y1.toNatClampNeg y0
  (ok_X6_fitting σ2) ∧ (let σ4 := pu σ2 35 2 (f_X6_fitting σ2)
  ok_X6_sample_90 x1 x2 σ4))
noncomputable def f_X6_sample_47  (x1 : Int32) (y0 : Int32) (σ : Sg) : Int32 × Sg :=
  o_ite (y0 = (-1)) (
    f_X6_sample_90 x1 y0 σ) (
    o_ite ((f_X6_isCoarseApart σ) = 0) (
      f_X6_sample_79 x1 y0 0 6 σ) (
      f_X6_sample_79 x1 y0 ((σ 35 6) + 1) 6 σ))
def ok_X6_sample_47  (x1 : Int32) (y0 : Int32) (σ : Sg) : Prop :=
  ((y0 = (-1)) →
    ok_X6_sample_90 x1 y0 σ) ∧ (¬ (y0 = (-1)) →
    (ok_X6_isCoarseApart σ) ∧ ((((f_X6_isCoarseApart σ) = 0) →
      ok_X6_sample_79 x1 y0 0 6 σ) ∧ (¬ ((f_X6_isCoarseApart σ) = 0) →
      ok_X6_sample_79 x1 y0 ((σ 35 6) + 1) 6 σ)))
noncomputable def f_X6_sample_39  (x1 : Int32) (σ : Sg) : Int32 × Sg :=
  f_X6_sample_47 x1 (-1) σ
def ok_X6_sample_39  (x1 : Int32) (σ : Sg) : Prop :=
  ok_X6_sample_47 x1 (-1) σ
noncomputable def f_X6_sample  (σ : Sg) : Int32 × Sg :=
  o_ite ((σ 35 1) = 0) (
    ((-2), σ)) (
    let σ2 := f_X6_saves σ
    let σ5 := f_X6_looks (f_X6_angle σ2) σ2
    o_ite ((f_X6_why σ5) = 1) (
      f_X6_sample_39 (f_X6_why σ5) σ5) (
      o_ite ((f_X6_why σ5) = 2) (
        f_X6_sample_39 (f_X6_why σ5) σ5) (
        f_X6_sample_47 (f_X6_why σ5) (f_X6_placeFound σ5) σ5)))
def ok_X6_sample  (σ : Sg) : Prop :=
  (((σ 35 1) = 0) →
    True) ∧ (¬ ((σ 35 1) = 0) →
    (ok_X6_saves σ) ∧ (let σ2 := f_X6_saves σ
    (ok_X6_angle σ2) ∧ ((ok_X6_looks (f_X6_angle σ2) σ2) ∧ (let σ5 := f_X6_looks (f_X6_angle σ2) σ2
    (ok_X6_why σ5) ∧ ((((f_X6_why σ5) = 1) →
      ok_X6_sample_39 (f_X6_why σ5) σ5) ∧ (¬ ((f_X6_why σ5) = 1) →
      (((f_X6_why σ5) = 2) →
        ok_X6_sample_39 (f_X6_why σ5) σ5) ∧ (¬ ((f_X6_why σ5) = 2) →
        (ok_X6_placeFound σ5) ∧ (ok_X6_sample_47 (f_X6_why σ5) (f_X6_placeFound σ5) σ5))))))))
set_option maxHeartbeats 4000000 in
set_option maxRecDepth 100000 in
theorem t_X6_sample_109 {p : Program} {l : Launch} {e : Env} {s : State} {m : MethodId} {args : Array Value} {below : List Frame} {meth : Method} {c : Code} {G : Gt} {post : Int32 → Sg → Prop}   (hc : o_Cx p s m args meth c G cX6_sample yX6_sample.cls 3) (hr : meth.sig.returnType = (some .int)) {x1 : Int32} {x2 : Int32} {y0 : Int32} {y1 : Int32} {σ : Sg} (hok : ok_X6_sample_109  x1 x2 y0 y1 σ) (hq : ∀ q : Int32 × Sg, q = f_X6_sample_109  x1 x2 y0 y1 σ → post q.1 q.2) : o_V p l e { frames := 4, cells := 0, slots := 0, locals := 93 } s m args below meth c (MQ below (va_Qi post (fun σ' t => o_W G σ' t.heap) (o_A G)) args s 0 0 (o_A G)) G 0 0 3 σ 109 [(1, .int x1), (2, .int x2)] [.int y0, .int y1, .ref (gAd G 35)] := by
  obtain ⟨hs1, hok⟩ := hok
  refine r_iast (pc := 109) (k := _) hc (by decide) rfl hs1 rfl dX6_sample_109 ?_
  refine r_iload_n (pc := 110) hc 0 dX6_sample_110 rfl rfl ?_
  refine r_if_ne (pc := 111) (tgt := 118) hc dX6_sample_111 (by decide) (fun c111 => ?_) (fun c111 => ?_)
  · have hok := hok.2 c111
    have hq := o_qn hq c111
    refine r_ldc (pc := 118) (v := 100000) hc kK_X6_137 dX6_sample_118 ?_
    refine r_iload_n (pc := 120) hc 0 dX6_sample_120 rfl rfl ?_
    refine r_iadd (pc := 121) hc dX6_sample_121 ?_
    exact r_iret hc hr rfl dX6_sample_122 (hq (_, _) rfl)
  · have hok := hok.1 c111
    have hq := o_qp hq c111
    refine r_iload_n (pc := 114) hc 1 dX6_sample_114 rfl rfl ?_
    refine r_goto (pc := 115) (tgt := 122) hc dX6_sample_115 (by decide) ?_
    exact r_iret hc hr rfl dX6_sample_122 (hq (_, _) rfl)
set_option maxHeartbeats 4000000 in
set_option maxRecDepth 100000 in
theorem t_X6_sample_90 {p : Program} {l : Launch} {e : Env} {s : State} {m : MethodId} {args : Array Value} {below : List Frame} {meth : Method} {c : Code} {G : Gt} {post : Int32 → Sg → Prop}   (hc : o_Cx p s m args meth c G cX6_sample yX6_sample.cls 3) (hr : meth.sig.returnType = (some .int)) {x1 : Int32} {x2 : Int32} {σ : Sg} (hok : ok_X6_sample_90  x1 x2 σ) (hq : ∀ q : Int32 × Sg, q = f_X6_sample_90  x1 x2 σ → post q.1 q.2) : o_V p l e { frames := 4, cells := 0, slots := 0, locals := 93 } s m args below meth c (MQ below (va_Qi post (fun σ' t => o_W G σ' t.heap) (o_A G)) args s 0 0 (o_A G)) G 0 0 3 σ 90 [(0, .ref (gAd G 34)), (1, .int x1), (2, .int x2)] [] := by
  refine r_aload_n (pc := 90) hc 0 dX6_sample_90 rfl rfl ?_
  refine r_getr (pc := 91) (j := 35) hc 0 kk6 (by decide) rfl (by decide) kF_X6_7 rfl rfl dX6_sample_91 ?_
  refine r_iconst (pc := 94) (v := 5) hc dX6_sample_94 rfl ?_
  refine r_iload_n (pc := 95) hc 1 dX6_sample_95 rfl rfl ?_
  refine r_if_ne (pc := 96) (tgt := 103) hc dX6_sample_96 (by decide) (fun c96 => ?_) (fun c96 => ?_)
  · have hok := hok.2 c96
    have hq := o_qn hq c96
    refine r_aload_n (pc := 103) hc 0 dX6_sample_103 rfl rfl ?_
    refine r_getr (pc := 104) (j := 35) hc 0 kk6 (by decide) rfl (by decide) kF_X6_7 rfl rfl dX6_sample_104 ?_
    refine r_iconst (pc := 107) (v := 5) hc dX6_sample_107 rfl ?_
    refine r_iald (pc := 108) (k := 5) hc (by decide) rfl (by unfold vp_in; decide) (by decide) dX6_sample_108 ?_
    exact o_V.sub (t_X6_sample_109  hc hr hok hq) [1, 2] rfl
  · have hok := hok.1 c96
    have hq := o_qp hq c96
    refine r_iload_n (pc := 99) hc 2 dX6_sample_99 rfl rfl ?_
    refine r_goto (pc := 100) (tgt := 109) hc dX6_sample_100 (by decide) ?_
    exact o_V.sub (t_X6_sample_109  hc hr hok hq) [1, 2] rfl
set_option maxHeartbeats 4000000 in
set_option maxRecDepth 100000 in
theorem t_X6_sample_79 {p : Program} {l : Launch} {e : Env} {s : State} {m : MethodId} {args : Array Value} {below : List Frame} {meth : Method} {c : Code} {G : Gt} {post : Int32 → Sg → Prop}   (hc : o_Cx p s m args meth c G cX6_sample yX6_sample.cls 3) (hr : meth.sig.returnType = (some .int)) {x1 : Int32} {x2 : Int32} {y0 : Int32} {y1 : Int32} {σ : Sg} (hok : ok_X6_sample_79  x1 x2 y0 y1 σ) (hq : ∀ q : Int32 × Sg, q = f_X6_sample_79  x1 x2 y0 y1 σ → post q.1 q.2) : o_V p l e { frames := 4, cells := 0, slots := 0, locals := 93 } s m args below meth c (MQ below (va_Qi post (fun σ' t => o_W G σ' t.heap) (o_A G)) args s 0 0 (o_A G)) G 0 0 3 σ 79 [(0, .ref (gAd G 34)), (1, .int x1), (2, .int x2)] [.int y0, .int y1, .ref (gAd G 35)] := by
  obtain ⟨hs1, hok⟩ := hok
  refine r_iast (pc := 79) (k := _) hc (by decide) rfl hs1 rfl dX6_sample_79 ?_
  refine r_aload_n (pc := 80) hc 0 dX6_sample_80 rfl rfl ?_
  refine r_getr (pc := 81) (j := 35) hc 0 kk6 (by decide) rfl (by decide) kF_X6_7 rfl rfl dX6_sample_81 ?_
  refine r_iconst (pc := 84) (v := 2) hc dX6_sample_84 rfl ?_
  refine r_aload_n (pc := 85) hc 0 dX6_sample_85 rfl rfl ?_
  obtain ⟨hs3, hok⟩ := hok
  refine r_callV_i (pc := 86) (as := []) hc (c_X6_fitting l G hs3) kk6 (by decide) rfl mV_X6_fitting kM_X6_123 ⟨Nat.le_of_ble_eq_true rfl, Nat.le_of_ble_eq_true rfl⟩ ⟨Nat.le_refl 0, Nat.le_refl 0⟩ rfl rfl (Nat.le_of_ble_eq_true rfl) dX6_sample_86 (fun r σ' h => ?_)
  obtain ⟨rfl, rfl⟩ := h
  refine r_iast (pc := 89) (k := 2) hc (by decide) rfl (by unfold vp_in; decide) (by decide) dX6_sample_89 ?_
  exact o_V.sub (t_X6_sample_90  hc hr hok hq) [0, 1, 2] rfl
set_option maxHeartbeats 4000000 in
set_option maxRecDepth 100000 in
theorem t_X6_sample_47 {p : Program} {l : Launch} {e : Env} {s : State} {m : MethodId} {args : Array Value} {below : List Frame} {meth : Method} {c : Code} {G : Gt} {post : Int32 → Sg → Prop}   (hc : o_Cx p s m args meth c G cX6_sample yX6_sample.cls 3) (hr : meth.sig.returnType = (some .int)) {x1 : Int32} {y0 : Int32} {σ : Sg} (hok : ok_X6_sample_47  x1 y0 σ) (hq : ∀ q : Int32 × Sg, q = f_X6_sample_47  x1 y0 σ → post q.1 q.2) : o_V p l e { frames := 4, cells := 0, slots := 0, locals := 93 } s m args below meth c (MQ below (va_Qi post (fun σ' t => o_W G σ' t.heap) (o_A G)) args s 0 0 (o_A G)) G 0 0 3 σ 47 [(0, .ref (gAd G 34)), (1, .int x1)] [.int y0] := by
  refine r_istore_n (pc := 47) (lv' := [(2, _), (0, _), (1, _)]) hc dX6_sample_47 rfl (by decide) rfl ?_
  refine r_iload_n (pc := 48) hc 0 dX6_sample_48 rfl rfl ?_
  refine r_iconst (pc := 49) (v := (-1)) hc dX6_sample_49 rfl ?_
  refine r_icmp_eq (pc := 50) (tgt := 90) hc dX6_sample_50 (by decide) (fun c50 => ?_) (fun c50 => ?_)
  · have hok := hok.1 c50
    have hq := o_qp hq c50
    exact o_V.sub (t_X6_sample_90  hc hr hok hq) [1, 2, 0] rfl
  · have hok := hok.2 c50
    have hq := o_qn hq c50
    refine r_aload_n (pc := 53) hc 1 dX6_sample_53 rfl rfl ?_
    refine r_getr (pc := 54) (j := 35) hc 0 kk6 (by decide) rfl (by decide) kF_X6_7 rfl rfl dX6_sample_54 ?_
    refine r_bipush (pc := 57) (v := 6) hc dX6_sample_57 (by decide) ?_
    refine r_aload_n (pc := 59) hc 1 dX6_sample_59 rfl rfl ?_
    obtain ⟨hs1, hok⟩ := hok
    refine r_callV_i (pc := 60) (as := []) hc (c_X6_isCoarseApart l G hs1) kk6 (by decide) rfl mV_X6_isCoarseApart kM_X6_126 ⟨Nat.le_of_ble_eq_true rfl, Nat.le_of_ble_eq_true rfl⟩ ⟨Nat.le_refl 0, Nat.le_refl 0⟩ rfl rfl (Nat.le_of_ble_eq_true rfl) dX6_sample_60 (fun r σ' h => ?_)
    obtain ⟨rfl, rfl⟩ := h
    refine r_if_eq (pc := 63) (tgt := 78) hc dX6_sample_63 (by decide) (fun c63 => ?_) (fun c63 => ?_)
    · have hok := hok.1 c63
      have hq := o_qp hq c63
      refine r_iconst (pc := 78) (v := 0) hc dX6_sample_78 rfl ?_
      exact o_V.sub (t_X6_sample_79  hc hr hok hq) [1, 2, 0] rfl
    · have hok := hok.2 c63
      have hq := o_qn hq c63
      refine r_aload_n (pc := 66) hc 1 dX6_sample_66 rfl rfl ?_
      refine r_getr (pc := 67) (j := 35) hc 0 kk6 (by decide) rfl (by decide) kF_X6_7 rfl rfl dX6_sample_67 ?_
      refine r_bipush (pc := 70) (v := 6) hc dX6_sample_70 (by decide) ?_
      refine r_iald (pc := 72) (k := 6) hc (by decide) rfl (by unfold vp_in; decide) (by decide) dX6_sample_72 ?_
      refine r_iconst (pc := 73) (v := 1) hc dX6_sample_73 rfl ?_
      refine r_iadd (pc := 74) hc dX6_sample_74 ?_
      refine r_goto (pc := 75) (tgt := 79) hc dX6_sample_75 (by decide) ?_
      exact o_V.sub (t_X6_sample_79  hc hr hok hq) [1, 2, 0] rfl
set_option maxHeartbeats 4000000 in
set_option maxRecDepth 100000 in
theorem t_X6_sample_39 {p : Program} {l : Launch} {e : Env} {s : State} {m : MethodId} {args : Array Value} {below : List Frame} {meth : Method} {c : Code} {G : Gt} {post : Int32 → Sg → Prop}   (hc : o_Cx p s m args meth c G cX6_sample yX6_sample.cls 3) (hr : meth.sig.returnType = (some .int)) {x1 : Int32} {σ : Sg} (hok : ok_X6_sample_39  x1 σ) (hq : ∀ q : Int32 × Sg, q = f_X6_sample_39  x1 σ → post q.1 q.2) : o_V p l e { frames := 4, cells := 0, slots := 0, locals := 93 } s m args below meth c (MQ below (va_Qi post (fun σ' t => o_W G σ' t.heap) (o_A G)) args s 0 0 (o_A G)) G 0 0 3 σ 39 [(0, .ref (gAd G 34)), (1, .int x1)] [] := by
  refine r_iconst (pc := 39) (v := (-1)) hc dX6_sample_39 rfl ?_
  refine r_goto (pc := 40) (tgt := 47) hc dX6_sample_40 (by decide) ?_
  exact o_V.sub (t_X6_sample_47  hc hr hok hq) [0, 1] rfl
set_option maxHeartbeats 4000000 in
set_option maxRecDepth 100000 in
theorem c_X6_sample (l : Launch) (G : Gt)   {σ : Sg} (hok : ok_X6_sample  σ) : o_Ci l G yX6_sample cX6_sample 3 (some .int) 4 93 [.ref (gAd G 34)] σ (fun r σ' => r = (f_X6_sample  σ).1 ∧ σ' = (f_X6_sample  σ).2) := by
  refine o_Ci.of (by decide +kernel) (Nat.le_of_ble_eq_true rfl) ?_
  intro p e s m args below meth c hc hr
  have hq : ∀ q : Int32 × Sg, q = f_X6_sample  σ → (fun r σ' => r = (f_X6_sample  σ).1 ∧ σ' = (f_X6_sample  σ).2) q.1 q.2 := fun q h => ⟨congrArg Prod.fst h, congrArg Prod.snd h⟩
  refine r_aload_n (pc := 0) hc 0 dX6_sample_0 rfl rfl ?_
  refine r_getr (pc := 1) (j := 35) hc 0 kk6 (by decide) rfl (by decide) kF_X6_7 rfl rfl dX6_sample_1 ?_
  refine r_iconst (pc := 4) (v := 1) hc dX6_sample_4 rfl ?_
  refine r_iald (pc := 5) (k := 1) hc (by decide) rfl (by unfold vp_in; decide) (by decide) dX6_sample_5 ?_
  refine r_if_ne (pc := 6) (tgt := 12) hc dX6_sample_6 (by decide) (fun c6 => ?_) (fun c6 => ?_)
  · have hok := hok.2 c6
    have hq := o_qn hq c6
    refine r_aload_n (pc := 12) hc 0 dX6_sample_12 rfl rfl ?_
    obtain ⟨hs1, hok⟩ := hok
    refine r_callV_v (pc := 13) (as := []) hc (c_X6_saves l G hs1) kk6 (by decide) rfl mV_X6_saves kM_X6_44 ⟨Nat.le_of_ble_eq_true rfl, Nat.le_of_ble_eq_true rfl⟩ ⟨Nat.le_refl 0, Nat.le_refl 0⟩ rfl rfl (Nat.le_of_ble_eq_true rfl) dX6_sample_13 (fun σ' h => ?_)
    subst h
    refine r_aload_n (pc := 16) hc 0 dX6_sample_16 rfl rfl ?_
    refine r_aload_n (pc := 17) hc 0 dX6_sample_17 rfl rfl ?_
    obtain ⟨hs3, hok⟩ := hok
    refine r_callV_i (pc := 18) (as := []) hc (c_X6_angle l G hs3) kk6 (by decide) rfl mV_X6_angle kM_X6_55 ⟨Nat.le_of_ble_eq_true rfl, Nat.le_of_ble_eq_true rfl⟩ ⟨Nat.le_refl 0, Nat.le_refl 0⟩ rfl rfl (Nat.le_of_ble_eq_true rfl) dX6_sample_18 (fun r σ' h => ?_)
    obtain ⟨rfl, rfl⟩ := h
    obtain ⟨hs4, hok⟩ := hok
    refine r_callV_v (pc := 21) (as := [.int _]) hc (c_X6_looks l G hs4) kk6 (by decide) rfl mV_X6_looks kM_X6_116 ⟨Nat.le_of_ble_eq_true rfl, Nat.le_of_ble_eq_true rfl⟩ ⟨Nat.le_refl 0, Nat.le_refl 0⟩ rfl rfl (Nat.le_of_ble_eq_true rfl) dX6_sample_21 (fun σ' h => ?_)
    subst h
    refine r_aload_n (pc := 24) hc 0 dX6_sample_24 rfl rfl ?_
    obtain ⟨hs6, hok⟩ := hok
    refine r_callV_i (pc := 25) (as := []) hc (c_X6_why l G hs6) kk6 (by decide) rfl mV_X6_why kM_X6_134 ⟨Nat.le_of_ble_eq_true rfl, Nat.le_of_ble_eq_true rfl⟩ ⟨Nat.le_refl 0, Nat.le_refl 0⟩ rfl rfl (Nat.le_of_ble_eq_true rfl) dX6_sample_25 (fun r σ' h => ?_)
    obtain ⟨rfl, rfl⟩ := h
    refine r_istore_n (pc := 28) (lv' := [(1, _), (0, _)]) hc dX6_sample_28 rfl (by decide) rfl ?_
    refine r_iload_n (pc := 29) hc 0 dX6_sample_29 rfl rfl ?_
    refine r_iconst (pc := 30) (v := 1) hc dX6_sample_30 rfl ?_
    refine r_icmp_eq (pc := 31) (tgt := 39) hc dX6_sample_31 (by decide) (fun c31 => ?_) (fun c31 => ?_)
    · have hok := hok.1 c31
      have hq := o_qp hq c31
      exact o_V.sub (t_X6_sample_39  hc hr hok hq) [1, 0] rfl
    · have hok := hok.2 c31
      have hq := o_qn hq c31
      refine r_iload_n (pc := 34) hc 0 dX6_sample_34 rfl rfl ?_
      refine r_iconst (pc := 35) (v := 2) hc dX6_sample_35 rfl ?_
      refine r_icmp_ne (pc := 36) (tgt := 43) hc dX6_sample_36 (by decide) (fun c36 => ?_) (fun c36 => ?_)
      · have hok := hok.2 c36
        have hq := o_qn hq c36
        refine r_aload_n (pc := 43) hc 1 dX6_sample_43 rfl rfl ?_
        obtain ⟨hs7, hok⟩ := hok
        refine r_callV_i (pc := 44) (as := []) hc (c_X6_placeFound l G hs7) kk6 (by decide) rfl mV_X6_placeFound kM_X6_130 ⟨Nat.le_of_ble_eq_true rfl, Nat.le_of_ble_eq_true rfl⟩ ⟨Nat.le_refl 0, Nat.le_refl 0⟩ rfl rfl (Nat.le_of_ble_eq_true rfl) dX6_sample_44 (fun r σ' h => ?_)
        obtain ⟨rfl, rfl⟩ := h
        exact o_V.sub (t_X6_sample_47  hc hr hok hq) [1, 0] rfl
      · have hok := hok.1 c36
        have hq := o_qp hq c36
        exact o_V.sub (t_X6_sample_39  hc hr hok hq) [1, 0] rfl
  · have hok := hok.1 c6
    have hq := o_qp hq c6
    refine r_bipush (pc := 9) (v := (-2)) hc dX6_sample_9 (by decide) ?_
    exact r_iret hc hr rfl dX6_sample_11 (hq (_, _) rfl)
noncomputable def f_X6_set (p1 : Int32) (p2 : Int32) (σ : Sg) : Int32 × Sg :=
  o_ite ((f_X6_isSetting p1 p2 σ) = 0) (
    ((-1), σ)) (
    let q3 := f_X6_puts (7 + p1) p2 σ
    o_ite (p1 = 3) (
      ((q3.1 + 100), q3.2)) (
      ((q3.1 + 0), q3.2)))
def ok_X6_set (p1 : Int32) (p2 : Int32) (σ : Sg) : Prop :=
  (ok_X6_isSetting p1 p2 σ) ∧ ((((f_X6_isSetting p1 p2 σ) = 0) →
    True) ∧ (¬ ((f_X6_isSetting p1 p2 σ) = 0) →
    (ok_X6_puts (7 + p1) p2 σ) ∧ (let q3 := f_X6_puts (7 + p1) p2 σ
    ((p1 = 3) →
      True) ∧ (¬ (p1 = 3) →
      True))))
set_option maxHeartbeats 4000000 in
set_option maxRecDepth 100000 in
theorem c_X6_set (l : Launch) (G : Gt) {p1 : Int32} {p2 : Int32}  {σ : Sg} (hok : ok_X6_set p1 p2 σ) : o_Ci l G yX6_set cX6_set 3 (some .int) 2 44 [.ref (gAd G 34), .int p1, .int p2] σ (fun r σ' => r = (f_X6_set p1 p2 σ).1 ∧ σ' = (f_X6_set p1 p2 σ).2) := by
  refine o_Ci.of (by decide +kernel) (Nat.le_of_ble_eq_true rfl) ?_
  intro p e s m args below meth c hc hr
  have hq : ∀ q : Int32 × Sg, q = f_X6_set p1 p2 σ → (fun r σ' => r = (f_X6_set p1 p2 σ).1 ∧ σ' = (f_X6_set p1 p2 σ).2) q.1 q.2 := fun q h => ⟨congrArg Prod.fst h, congrArg Prod.snd h⟩
  refine r_iload_n (pc := 0) hc 1 dX6_set_0 rfl rfl ?_
  refine r_iload_n (pc := 1) hc 2 dX6_set_1 rfl rfl ?_
  obtain ⟨hs1, hok⟩ := hok
  refine r_callS_i (pc := 2) (as := [.int _, .int _]) hc (c_X6_isSetting l G hs1) mS_X6_isSetting kM_X6_72 ⟨Nat.le_of_ble_eq_true rfl, Nat.le_of_ble_eq_true rfl⟩ ⟨Nat.le_refl 0, Nat.le_refl 0⟩ rfl rfl (Nat.le_of_ble_eq_true rfl) dX6_set_2 (fun r σ' h => ?_)
  obtain ⟨rfl, rfl⟩ := h
  refine r_if_eq (pc := 5) (tgt := 32) hc dX6_set_5 (by decide) (fun c5 => ?_) (fun c5 => ?_)
  · have hok := hok.1 c5
    have hq := o_qp hq c5
    refine r_iconst (pc := 32) (v := (-1)) hc dX6_set_32 rfl ?_
    exact r_iret hc hr rfl dX6_set_33 (hq (_, _) rfl)
  · have hok := hok.2 c5
    have hq := o_qn hq c5
    refine r_aload_n (pc := 8) hc 0 dX6_set_8 rfl rfl ?_
    refine r_bipush (pc := 9) (v := 7) hc dX6_set_9 (by decide) ?_
    refine r_iload_n (pc := 11) hc 1 dX6_set_11 rfl rfl ?_
    refine r_iadd (pc := 12) hc dX6_set_12 ?_
    refine r_iload_n (pc := 13) hc 2 dX6_set_13 rfl rfl ?_
    obtain ⟨hs2, hok⟩ := hok
    refine r_callV_i (pc := 14) (as := [.int _, .int _]) hc (c_X6_puts l G hs2) kk6 (by decide) rfl mV_X6_puts kM_X6_52 ⟨Nat.le_of_ble_eq_true rfl, Nat.le_of_ble_eq_true rfl⟩ ⟨Nat.le_refl 0, Nat.le_refl 0⟩ rfl rfl (Nat.le_of_ble_eq_true rfl) dX6_set_14 (fun r σ' h => ?_)
    obtain ⟨rfl, rfl⟩ := h
    refine r_iload_n (pc := 17) hc 1 dX6_set_17 rfl rfl ?_
    refine r_iconst (pc := 18) (v := 3) hc dX6_set_18 rfl ?_
    refine r_icmp_ne (pc := 19) (tgt := 27) hc dX6_set_19 (by decide) (fun c19 => ?_) (fun c19 => ?_)
    · have hok := hok.2 c19
      have hq := o_qn hq c19
      refine r_iconst (pc := 27) (v := 0) hc dX6_set_27 rfl ?_
      refine r_iadd (pc := 28) hc dX6_set_28 ?_
      refine r_goto (pc := 29) (tgt := 33) hc dX6_set_29 (by decide) ?_
      exact r_iret hc hr rfl dX6_set_33 (hq (_, _) rfl)
    · have hok := hok.1 c19
      have hq := o_qp hq c19
      refine r_bipush (pc := 22) (v := 100) hc dX6_set_22 (by decide) ?_
      refine r_goto (pc := 24) (tgt := 28) hc dX6_set_24 (by decide) ?_
      refine r_iadd (pc := 28) hc dX6_set_28 ?_
      refine r_goto (pc := 29) (tgt := 33) hc dX6_set_29 (by decide) ?_
      exact r_iret hc hr rfl dX6_set_33 (hq (_, _) rfl)
noncomputable def f_X6_survey_106 (K : Int32 → Int32 → Int32 → Int32 → Int32 → Int32 → Sg → Int32 × Sg) (x1 : Int32) (x2 : Int32) (x3 : Int32) (x4 : Int32) (x6 : Int32) (y0 : Int32) (σ : Sg) : Int32 × Sg :=
  K x1 x2 x3 x4 y0 (x6 + x1) σ
def ok_X6_survey_106 (okK : Int32 → Int32 → Int32 → Int32 → Int32 → Int32 → Sg → Prop) (x1 : Int32) (x2 : Int32) (x3 : Int32) (x4 : Int32) (x6 : Int32) (y0 : Int32) (σ : Sg) : Prop :=
  okK x1 x2 x3 x4 y0 (x6 + x1) σ
noncomputable def f_X6_survey_86 (K : Int32 → Int32 → Int32 → Int32 → Int32 → Int32 → Sg → Int32 × Sg) (x1 : Int32) (x2 : Int32) (x4 : Int32) (x5 : Int32) (x6 : Int32) (y0 : Int32) (y1 : Int32) (σ : Sg) : Int32 × Sg :=
  o_ite ((σ 34 6) ≤ x5) (
    f_X6_survey_106 K x1 x2 (y1 + y0) x4 x6 x5 σ) (
    f_X6_survey_106 K x1 x2 (y1 + y0) x4 x6 (σ 34 6) σ)
def ok_X6_survey_86 (okK : Int32 → Int32 → Int32 → Int32 → Int32 → Int32 → Sg → Prop) (x1 : Int32) (x2 : Int32) (x4 : Int32) (x5 : Int32) (x6 : Int32) (y0 : Int32) (y1 : Int32) (σ : Sg) : Prop :=
  (((σ 34 6) ≤ x5) →
    ok_X6_survey_106 okK x1 x2 (y1 + y0) x4 x6 x5 σ) ∧ (¬ ((σ 34 6) ≤ x5) →
    ok_X6_survey_106 okK x1 x2 (y1 + y0) x4 x6 (σ 34 6) σ)
noncomputable def f_X6_survey_69 (K : Int32 → Int32 → Int32 → Int32 → Int32 → Int32 → Sg → Int32 × Sg) (x1 : Int32) (x2 : Int32) (x3 : Int32) (x5 : Int32) (x6 : Int32) (y0 : Int32) (σ : Sg) : Int32 × Sg :=
  o_ite ((σ 34 5) = x6) (
    f_X6_survey_86 K x1 x2 y0 x5 x6 0 x3 σ) (
    f_X6_survey_86 K x1 x2 y0 x5 x6 1 x3 σ)
def ok_X6_survey_69 (okK : Int32 → Int32 → Int32 → Int32 → Int32 → Int32 → Sg → Prop) (x1 : Int32) (x2 : Int32) (x3 : Int32) (x5 : Int32) (x6 : Int32) (y0 : Int32) (σ : Sg) : Prop :=
  (((σ 34 5) = x6) →
    ok_X6_survey_86 okK x1 x2 y0 x5 x6 0 x3 σ) ∧ (¬ ((σ 34 5) = x6) →
    ok_X6_survey_86 okK x1 x2 y0 x5 x6 1 x3 σ)
noncomputable def f_X6_survey_67 (K : Int32 → Int32 → Int32 → Int32 → Int32 → Int32 → Sg → Int32 × Sg) (x1 : Int32) (x2 : Int32) (x3 : Int32) (x4 : Int32) (x5 : Int32) (x6 : Int32) (σ : Sg) : Int32 × Sg :=
  f_X6_survey_69 K x1 x2 x3 x5 x6 x4 σ
def ok_X6_survey_67 (okK : Int32 → Int32 → Int32 → Int32 → Int32 → Int32 → Sg → Prop) (x1 : Int32) (x2 : Int32) (x3 : Int32) (x4 : Int32) (x5 : Int32) (x6 : Int32) (σ : Sg) : Prop :=
  ok_X6_survey_69 okK x1 x2 x3 x5 x6 x4 σ
noncomputable def f_X6_survey_35  : Nat → Int32 → Int32 → Int32 → Int32 → Int32 → Int32 → Sg → Int32 × Sg
  | 0 => fun _ _ _ _ _ _ σ => (0, σ)
  | n + 1 => fun x1 x2 x3 x4 x5 x6 σ =>
    o_ite (4080 ≤ x6) (
      o_ite (x2 = 0) (
        (x3, σ)) (
        o_ite (x2 = 1) (
          (x4, σ)) (
          (x5, σ)))) (
      let σ2 := f_X6_looks x6 σ
      o_ite ((σ2 34 5) = x6) (
        f_X6_survey_67 (f_X6_survey_35 n) x1 x2 x3 x4 x5 x6 σ2) (
        o_ite (x3 = 0) (
          f_X6_survey_69 (f_X6_survey_35 n) x1 x2 x3 x5 x6 x6 σ2) (
          f_X6_survey_67 (f_X6_survey_35 n) x1 x2 x3 x4 x5 x6 σ2)))
def ok_X6_survey_35  : Nat → Int32 → Int32 → Int32 → Int32 → Int32 → Int32 → Sg → Prop
  | 0 => fun _ _ _ _ _ _ _ => False
  | n + 1 => fun x1 x2 x3 x4 x5 x6 σ =>
    ((4080 ≤ x6) →
      ((x2 = 0) →
        True) ∧ (¬ (x2 = 0) →
        ((x2 = 1) →
          True) ∧ (¬ (x2 = 1) →
          True))) ∧ (¬ (4080 ≤ x6) →
      (ok_X6_looks x6 σ) ∧ (let σ2 := f_X6_looks x6 σ
      (((σ2 34 5) = x6) →
        ok_X6_survey_67 (ok_X6_survey_35 n) x1 x2 x3 x4 x5 x6 σ2) ∧ (¬ ((σ2 34 5) = x6) →
        ((x3 = 0) →
          ok_X6_survey_69 (ok_X6_survey_35 n) x1 x2 x3 x5 x6 x6 σ2) ∧ (¬ (x3 = 0) →
          ok_X6_survey_67 (ok_X6_survey_35 n) x1 x2 x3 x4 x5 x6 σ2))))
noncomputable def f_X6_survey (p1 : Int32) (p2 : Int32) (σ : Sg) : Int32 × Sg :=
  o_ite ((f_X6_in p1 102 4080 σ) = 0) (
    ((-1), σ)) (
    o_ite ((f_X6_in p2 0 2 σ) = 0) (
      ((-1), σ)) (
      f_X6_survey_35  oF p1 p2 0 (-4) 0 0 σ))
def ok_X6_survey (p1 : Int32) (p2 : Int32) (σ : Sg) : Prop :=
  (ok_X6_in p1 102 4080 σ) ∧ ((((f_X6_in p1 102 4080 σ) = 0) →
    True) ∧ (¬ ((f_X6_in p1 102 4080 σ) = 0) →
    (ok_X6_in p2 0 2 σ) ∧ ((((f_X6_in p2 0 2 σ) = 0) →
      True) ∧ (¬ ((f_X6_in p2 0 2 σ) = 0) →
      ok_X6_survey_35  oF p1 p2 0 (-4) 0 0 σ))))
set_option maxHeartbeats 4000000 in
set_option maxRecDepth 100000 in
theorem t_X6_survey_106 {p : Program} {l : Launch} {e : Env} {s : State} {m : MethodId} {args : Array Value} {below : List Frame} {meth : Method} {c : Code} {G : Gt} {post : Int32 → Sg → Prop} (hc : o_Cx p s m args meth c G cX6_survey yX6_survey.cls 7) (hr : meth.sig.returnType = (some .int)) {K : Int32 → Int32 → Int32 → Int32 → Int32 → Int32 → Sg → Int32 × Sg} {okK : Int32 → Int32 → Int32 → Int32 → Int32 → Int32 → Sg → Prop} (hK : ∀ (z1 : Int32) (z2 : Int32) (z3 : Int32) (z4 : Int32) (z5 : Int32) (z6 : Int32) (zs : Sg), okK z1 z2 z3 z4 z5 z6 zs → (∀ q : Int32 × Sg, q = K z1 z2 z3 z4 z5 z6 zs → post q.1 q.2) → o_V p l e { frames := 4, cells := 0, slots := 0, locals := 93 } s m args below meth c (MQ below (va_Qi post (fun σ' t => o_W G σ' t.heap) (o_A G)) args s 0 0 (o_A G)) G 0 0 7 zs 35 [(0, .ref (gAd G 34)), (1, .int z1), (2, .int z2), (3, .int z3), (4, .int z4), (5, .int z5), (6, .int z6)] []) {x1 : Int32} {x2 : Int32} {x3 : Int32} {x4 : Int32} {x6 : Int32} {y0 : Int32} {σ : Sg} (hok : ok_X6_survey_106 okK x1 x2 x3 x4 x6 y0 σ) (hq : ∀ q : Int32 × Sg, q = f_X6_survey_106 K x1 x2 x3 x4 x6 y0 σ → post q.1 q.2) : o_V p l e { frames := 4, cells := 0, slots := 0, locals := 93 } s m args below meth c (MQ below (va_Qi post (fun σ' t => o_W G σ' t.heap) (o_A G)) args s 0 0 (o_A G)) G 0 0 7 σ 106 [(0, .ref (gAd G 34)), (1, .int x1), (2, .int x2), (3, .int x3), (4, .int x4), (6, .int x6)] [.int y0] := by
  refine r_istore (pc := 106) (lv' := [(5, _), (0, _), (1, _), (2, _), (3, _), (4, _), (6, _)]) hc dX6_survey_106 (by decide) rfl ?_
  refine r_iload (pc := 108) hc 6 dX6_survey_108 rfl ?_
  refine r_iload_n (pc := 110) hc 2 dX6_survey_110 rfl rfl ?_
  refine r_iadd (pc := 111) hc dX6_survey_111 ?_
  refine r_istore (pc := 112) (lv' := [(6, _), (5, _), (0, _), (1, _), (2, _), (3, _), (4, _)]) hc dX6_survey_112 (by decide) rfl ?_
  refine r_goto (pc := 114) (tgt := 35) hc dX6_survey_114 (by decide) ?_
  exact o_V.sub (hK _ _ _ _ _ _ _ hok hq) [2, 3, 4, 5, 6, 1, 0] rfl
set_option maxHeartbeats 4000000 in
set_option maxRecDepth 100000 in
theorem t_X6_survey_86 {p : Program} {l : Launch} {e : Env} {s : State} {m : MethodId} {args : Array Value} {below : List Frame} {meth : Method} {c : Code} {G : Gt} {post : Int32 → Sg → Prop} (hc : o_Cx p s m args meth c G cX6_survey yX6_survey.cls 7) (hr : meth.sig.returnType = (some .int)) {K : Int32 → Int32 → Int32 → Int32 → Int32 → Int32 → Sg → Int32 × Sg} {okK : Int32 → Int32 → Int32 → Int32 → Int32 → Int32 → Sg → Prop} (hK : ∀ (z1 : Int32) (z2 : Int32) (z3 : Int32) (z4 : Int32) (z5 : Int32) (z6 : Int32) (zs : Sg), okK z1 z2 z3 z4 z5 z6 zs → (∀ q : Int32 × Sg, q = K z1 z2 z3 z4 z5 z6 zs → post q.1 q.2) → o_V p l e { frames := 4, cells := 0, slots := 0, locals := 93 } s m args below meth c (MQ below (va_Qi post (fun σ' t => o_W G σ' t.heap) (o_A G)) args s 0 0 (o_A G)) G 0 0 7 zs 35 [(0, .ref (gAd G 34)), (1, .int z1), (2, .int z2), (3, .int z3), (4, .int z4), (5, .int z5), (6, .int z6)] []) {x1 : Int32} {x2 : Int32} {x4 : Int32} {x5 : Int32} {x6 : Int32} {y0 : Int32} {y1 : Int32} {σ : Sg} (hok : ok_X6_survey_86 okK x1 x2 x4 x5 x6 y0 y1 σ) (hq : ∀ q : Int32 × Sg, q = f_X6_survey_86 K x1 x2 x4 x5 x6 y0 y1 σ → post q.1 q.2) : o_V p l e { frames := 4, cells := 0, slots := 0, locals := 93 } s m args below meth c (MQ below (va_Qi post (fun σ' t => o_W G σ' t.heap) (o_A G)) args s 0 0 (o_A G)) G 0 0 7 σ 86 [(0, .ref (gAd G 34)), (1, .int x1), (2, .int x2), (4, .int x4), (5, .int x5), (6, .int x6)] [.int y0, .int y1] := by
  refine r_iadd (pc := 86) hc dX6_survey_86 ?_
  refine r_istore_n (pc := 87) (lv' := [(3, _), (0, _), (1, _), (2, _), (4, _), (5, _), (6, _)]) hc dX6_survey_87 rfl (by decide) rfl ?_
  refine r_aload_n (pc := 88) hc 1 dX6_survey_88 rfl rfl ?_
  refine r_geti (pc := 89) hc 6 kk6 (by decide) rfl (by decide) kF_X6_82 rfl rfl dX6_survey_89 ?_
  refine r_iload (pc := 92) hc 5 dX6_survey_92 rfl ?_
  refine r_icmp_le (pc := 94) (tgt := 104) hc dX6_survey_94 (by decide) (fun c94 => ?_) (fun c94 => ?_)
  · have hok := hok.1 c94
    have hq := o_qp hq c94
    refine r_iload (pc := 104) hc 5 dX6_survey_104 rfl ?_
    exact o_V.sub (t_X6_survey_106 hc hr hK hok hq) [1, 2, 3, 0, 4, 6] rfl
  · have hok := hok.2 c94
    have hq := o_qn hq c94
    refine r_aload_n (pc := 97) hc 1 dX6_survey_97 rfl rfl ?_
    refine r_geti (pc := 98) hc 6 kk6 (by decide) rfl (by decide) kF_X6_82 rfl rfl dX6_survey_98 ?_
    refine r_goto (pc := 101) (tgt := 106) hc dX6_survey_101 (by decide) ?_
    exact o_V.sub (t_X6_survey_106 hc hr hK hok hq) [1, 2, 3, 0, 4, 6] rfl
set_option maxHeartbeats 4000000 in
set_option maxRecDepth 100000 in
theorem t_X6_survey_69 {p : Program} {l : Launch} {e : Env} {s : State} {m : MethodId} {args : Array Value} {below : List Frame} {meth : Method} {c : Code} {G : Gt} {post : Int32 → Sg → Prop} (hc : o_Cx p s m args meth c G cX6_survey yX6_survey.cls 7) (hr : meth.sig.returnType = (some .int)) {K : Int32 → Int32 → Int32 → Int32 → Int32 → Int32 → Sg → Int32 × Sg} {okK : Int32 → Int32 → Int32 → Int32 → Int32 → Int32 → Sg → Prop} (hK : ∀ (z1 : Int32) (z2 : Int32) (z3 : Int32) (z4 : Int32) (z5 : Int32) (z6 : Int32) (zs : Sg), okK z1 z2 z3 z4 z5 z6 zs → (∀ q : Int32 × Sg, q = K z1 z2 z3 z4 z5 z6 zs → post q.1 q.2) → o_V p l e { frames := 4, cells := 0, slots := 0, locals := 93 } s m args below meth c (MQ below (va_Qi post (fun σ' t => o_W G σ' t.heap) (o_A G)) args s 0 0 (o_A G)) G 0 0 7 zs 35 [(0, .ref (gAd G 34)), (1, .int z1), (2, .int z2), (3, .int z3), (4, .int z4), (5, .int z5), (6, .int z6)] []) {x1 : Int32} {x2 : Int32} {x3 : Int32} {x5 : Int32} {x6 : Int32} {y0 : Int32} {σ : Sg} (hok : ok_X6_survey_69 okK x1 x2 x3 x5 x6 y0 σ) (hq : ∀ q : Int32 × Sg, q = f_X6_survey_69 K x1 x2 x3 x5 x6 y0 σ → post q.1 q.2) : o_V p l e { frames := 4, cells := 0, slots := 0, locals := 93 } s m args below meth c (MQ below (va_Qi post (fun σ' t => o_W G σ' t.heap) (o_A G)) args s 0 0 (o_A G)) G 0 0 7 σ 69 [(0, .ref (gAd G 34)), (1, .int x1), (2, .int x2), (3, .int x3), (5, .int x5), (6, .int x6)] [.int y0] := by
  refine r_istore (pc := 69) (lv' := [(4, _), (0, _), (1, _), (2, _), (3, _), (5, _), (6, _)]) hc dX6_survey_69 (by decide) rfl ?_
  refine r_iload_n (pc := 71) hc 4 dX6_survey_71 rfl rfl ?_
  refine r_aload_n (pc := 72) hc 1 dX6_survey_72 rfl rfl ?_
  refine r_geti (pc := 73) hc 5 kk6 (by decide) rfl (by decide) kF_X6_85 rfl rfl dX6_survey_73 ?_
  refine r_iload (pc := 76) hc 6 dX6_survey_76 rfl ?_
  refine r_icmp_ne (pc := 78) (tgt := 85) hc dX6_survey_78 (by decide) (fun c78 => ?_) (fun c78 => ?_)
  · have hok := hok.2 c78
    have hq := o_qn hq c78
    refine r_iconst (pc := 85) (v := 1) hc dX6_survey_85 rfl ?_
    exact o_V.sub (t_X6_survey_86 hc hr hK hok hq) [1, 2, 3, 0, 5, 6] rfl
  · have hok := hok.1 c78
    have hq := o_qp hq c78
    refine r_iconst (pc := 81) (v := 0) hc dX6_survey_81 rfl ?_
    refine r_goto (pc := 82) (tgt := 86) hc dX6_survey_82 (by decide) ?_
    exact o_V.sub (t_X6_survey_86 hc hr hK hok hq) [1, 2, 3, 0, 5, 6] rfl
set_option maxHeartbeats 4000000 in
set_option maxRecDepth 100000 in
theorem t_X6_survey_67 {p : Program} {l : Launch} {e : Env} {s : State} {m : MethodId} {args : Array Value} {below : List Frame} {meth : Method} {c : Code} {G : Gt} {post : Int32 → Sg → Prop} (hc : o_Cx p s m args meth c G cX6_survey yX6_survey.cls 7) (hr : meth.sig.returnType = (some .int)) {K : Int32 → Int32 → Int32 → Int32 → Int32 → Int32 → Sg → Int32 × Sg} {okK : Int32 → Int32 → Int32 → Int32 → Int32 → Int32 → Sg → Prop} (hK : ∀ (z1 : Int32) (z2 : Int32) (z3 : Int32) (z4 : Int32) (z5 : Int32) (z6 : Int32) (zs : Sg), okK z1 z2 z3 z4 z5 z6 zs → (∀ q : Int32 × Sg, q = K z1 z2 z3 z4 z5 z6 zs → post q.1 q.2) → o_V p l e { frames := 4, cells := 0, slots := 0, locals := 93 } s m args below meth c (MQ below (va_Qi post (fun σ' t => o_W G σ' t.heap) (o_A G)) args s 0 0 (o_A G)) G 0 0 7 zs 35 [(0, .ref (gAd G 34)), (1, .int z1), (2, .int z2), (3, .int z3), (4, .int z4), (5, .int z5), (6, .int z6)] []) {x1 : Int32} {x2 : Int32} {x3 : Int32} {x4 : Int32} {x5 : Int32} {x6 : Int32} {σ : Sg} (hok : ok_X6_survey_67 okK x1 x2 x3 x4 x5 x6 σ) (hq : ∀ q : Int32 × Sg, q = f_X6_survey_67 K x1 x2 x3 x4 x5 x6 σ → post q.1 q.2) : o_V p l e { frames := 4, cells := 0, slots := 0, locals := 93 } s m args below meth c (MQ below (va_Qi post (fun σ' t => o_W G σ' t.heap) (o_A G)) args s 0 0 (o_A G)) G 0 0 7 σ 67 [(0, .ref (gAd G 34)), (1, .int x1), (2, .int x2), (3, .int x3), (4, .int x4), (5, .int x5), (6, .int x6)] [] := by
  refine r_iload (pc := 67) hc 4 dX6_survey_67 rfl ?_
  exact o_V.sub (t_X6_survey_69 hc hr hK hok hq) [0, 1, 2, 3, 5, 6] rfl
set_option maxHeartbeats 4000000 in
set_option maxRecDepth 100000 in
theorem t_X6_survey_35 {p : Program} {l : Launch} {e : Env} {s : State} {m : MethodId} {args : Array Value} {below : List Frame} {meth : Method} {c : Code} {G : Gt} {post : Int32 → Sg → Prop}   (hc : o_Cx p s m args meth c G cX6_survey yX6_survey.cls 7) (hr : meth.sig.returnType = (some .int)) : ∀ (n : Nat) (x1 : Int32) (x2 : Int32) (x3 : Int32) (x4 : Int32) (x5 : Int32) (x6 : Int32) (σ : Sg) (hok : ok_X6_survey_35  n x1 x2 x3 x4 x5 x6 σ) (hq : ∀ q : Int32 × Sg, q = f_X6_survey_35  n x1 x2 x3 x4 x5 x6 σ → post q.1 q.2), o_V p l e { frames := 4, cells := 0, slots := 0, locals := 93 } s m args below meth c (MQ below (va_Qi post (fun σ' t => o_W G σ' t.heap) (o_A G)) args s 0 0 (o_A G)) G 0 0 7 σ 35 [(0, .ref (gAd G 34)), (1, .int x1), (2, .int x2), (3, .int x3), (4, .int x4), (5, .int x5), (6, .int x6)] [] := by
  intro n
  induction n with
  | zero =>
    intro x1 x2 x3 x4 x5 x6 σ hok hq
    exact hok.elim
  | succ n ih =>
    intro x1 x2 x3 x4 x5 x6 σ hok hq
    refine r_iload (pc := 35) hc 6 dX6_survey_35 rfl ?_
    refine r_sipush (pc := 37) (v := 4080) hc dX6_survey_37 (by decide) ?_
    refine r_icmp_ge (pc := 40) (tgt := 117) hc dX6_survey_40 (by decide) (fun c40 => ?_) (fun c40 => ?_)
    · have hok := hok.1 c40
      have hq := o_qp hq c40
      refine r_iload_n (pc := 117) hc 2 dX6_survey_117 rfl rfl ?_
      refine r_if_ne (pc := 118) (tgt := 125) hc dX6_survey_118 (by decide) (fun c118 => ?_) (fun c118 => ?_)
      · have hok := hok.2 c118
        have hq := o_qn hq c118
        refine r_iload_n (pc := 125) hc 2 dX6_survey_125 rfl rfl ?_
        refine r_iconst (pc := 126) (v := 1) hc dX6_survey_126 rfl ?_
        refine r_icmp_ne (pc := 127) (tgt := 135) hc dX6_survey_127 (by decide) (fun c127 => ?_) (fun c127 => ?_)
        · have hok := hok.2 c127
          have hq := o_qn hq c127
          refine r_iload (pc := 135) hc 5 dX6_survey_135 rfl ?_
          exact r_iret hc hr rfl dX6_survey_137 (hq (_, _) rfl)
        · have hok := hok.1 c127
          have hq := o_qp hq c127
          refine r_iload (pc := 130) hc 4 dX6_survey_130 rfl ?_
          refine r_goto (pc := 132) (tgt := 137) hc dX6_survey_132 (by decide) ?_
          exact r_iret hc hr rfl dX6_survey_137 (hq (_, _) rfl)
      · have hok := hok.1 c118
        have hq := o_qp hq c118
        refine r_iload_n (pc := 121) hc 3 dX6_survey_121 rfl rfl ?_
        refine r_goto (pc := 122) (tgt := 137) hc dX6_survey_122 (by decide) ?_
        exact r_iret hc hr rfl dX6_survey_137 (hq (_, _) rfl)
    · have hok := hok.2 c40
      have hq := o_qn hq c40
      refine r_aload_n (pc := 43) hc 0 dX6_survey_43 rfl rfl ?_
      refine r_iload (pc := 44) hc 6 dX6_survey_44 rfl ?_
      obtain ⟨hs1, hok⟩ := hok
      refine r_callV_v (pc := 46) (as := [.int _]) hc (c_X6_looks l G hs1) kk6 (by decide) rfl mV_X6_looks kM_X6_116 ⟨Nat.le_of_ble_eq_true rfl, Nat.le_of_ble_eq_true rfl⟩ ⟨Nat.le_refl 0, Nat.le_refl 0⟩ rfl rfl (Nat.le_of_ble_eq_true rfl) dX6_survey_46 (fun σ' h => ?_)
      subst h
      refine r_aload_n (pc := 49) hc 0 dX6_survey_49 rfl rfl ?_
      refine r_geti (pc := 50) hc 5 kk6 (by decide) rfl (by decide) kF_X6_85 rfl rfl dX6_survey_50 ?_
      refine r_iload (pc := 53) hc 6 dX6_survey_53 rfl ?_
      refine r_icmp_eq (pc := 55) (tgt := 67) hc dX6_survey_55 (by decide) (fun c55 => ?_) (fun c55 => ?_)
      · have hok := hok.1 c55
        have hq := o_qp hq c55
        exact o_V.sub (t_X6_survey_67 hc hr (K := f_X6_survey_35 n) (okK := ok_X6_survey_35 n) (fun z0 z1 z2 z3 z4 z5 zs h1 h2 => ih z0 z1 z2 z3 z4 z5 zs h1 h2) hok hq) [0, 1, 2, 3, 4, 5, 6] rfl
      · have hok := hok.2 c55
        have hq := o_qn hq c55
        refine r_iload_n (pc := 58) hc 3 dX6_survey_58 rfl rfl ?_
        refine r_if_ne (pc := 59) (tgt := 67) hc dX6_survey_59 (by decide) (fun c59 => ?_) (fun c59 => ?_)
        · have hok := hok.2 c59
          have hq := o_qn hq c59
          exact o_V.sub (t_X6_survey_67 hc hr (K := f_X6_survey_35 n) (okK := ok_X6_survey_35 n) (fun z0 z1 z2 z3 z4 z5 zs h1 h2 => ih z0 z1 z2 z3 z4 z5 zs h1 h2) hok hq) [0, 1, 2, 3, 4, 5, 6] rfl
        · have hok := hok.1 c59
          have hq := o_qp hq c59
          refine r_iload (pc := 62) hc 6 dX6_survey_62 rfl ?_
          refine r_goto (pc := 64) (tgt := 69) hc dX6_survey_64 (by decide) ?_
          exact o_V.sub (t_X6_survey_69 hc hr (K := f_X6_survey_35 n) (okK := ok_X6_survey_35 n) (fun z0 z1 z2 z3 z4 z5 zs h1 h2 => ih z0 z1 z2 z3 z4 z5 zs h1 h2) hok hq) [0, 1, 2, 3, 5, 6] rfl
set_option maxHeartbeats 4000000 in
set_option maxRecDepth 100000 in
theorem c_X6_survey (l : Launch) (G : Gt) {p1 : Int32} {p2 : Int32}  {σ : Sg} (hok : ok_X6_survey p1 p2 σ) : o_Ci l G yX6_survey cX6_survey 7 (some .int) 4 93 [.ref (gAd G 34), .int p1, .int p2] σ (fun r σ' => r = (f_X6_survey p1 p2 σ).1 ∧ σ' = (f_X6_survey p1 p2 σ).2) := by
  refine o_Ci.of (by decide +kernel) (Nat.le_of_ble_eq_true rfl) ?_
  intro p e s m args below meth c hc hr
  have hq : ∀ q : Int32 × Sg, q = f_X6_survey p1 p2 σ → (fun r σ' => r = (f_X6_survey p1 p2 σ).1 ∧ σ' = (f_X6_survey p1 p2 σ).2) q.1 q.2 := fun q h => ⟨congrArg Prod.fst h, congrArg Prod.snd h⟩
  refine r_iload_n (pc := 0) hc 1 dX6_survey_0 rfl rfl ?_
  refine r_bipush (pc := 1) (v := 102) hc dX6_survey_1 (by decide) ?_
  refine r_sipush (pc := 3) (v := 4080) hc dX6_survey_3 (by decide) ?_
  obtain ⟨hs1, hok⟩ := hok
  refine r_callS_i (pc := 6) (as := [.int _, .int _, .int _]) hc (c_X6_in l G hs1) mS_X6_in kM_X6_32 ⟨Nat.le_of_ble_eq_true rfl, Nat.le_of_ble_eq_true rfl⟩ ⟨Nat.le_refl 0, Nat.le_refl 0⟩ rfl rfl (Nat.le_of_ble_eq_true rfl) dX6_survey_6 (fun r σ' h => ?_)
  obtain ⟨rfl, rfl⟩ := h
  refine r_if_eq (pc := 9) (tgt := 21) hc dX6_survey_9 (by decide) (fun c9 => ?_) (fun c9 => ?_)
  · have hok := hok.1 c9
    have hq := o_qp hq c9
    refine r_iconst (pc := 21) (v := (-1)) hc dX6_survey_21 rfl ?_
    exact r_iret hc hr rfl dX6_survey_22 (hq (_, _) rfl)
  · have hok := hok.2 c9
    have hq := o_qn hq c9
    refine r_iload_n (pc := 12) hc 2 dX6_survey_12 rfl rfl ?_
    refine r_iconst (pc := 13) (v := 0) hc dX6_survey_13 rfl ?_
    refine r_iconst (pc := 14) (v := 2) hc dX6_survey_14 rfl ?_
    obtain ⟨hs2, hok⟩ := hok
    refine r_callS_i (pc := 15) (as := [.int _, .int _, .int _]) hc (c_X6_in l G hs2) mS_X6_in kM_X6_32 ⟨Nat.le_of_ble_eq_true rfl, Nat.le_of_ble_eq_true rfl⟩ ⟨Nat.le_refl 0, Nat.le_refl 0⟩ rfl rfl (Nat.le_of_ble_eq_true rfl) dX6_survey_15 (fun r σ' h => ?_)
    obtain ⟨rfl, rfl⟩ := h
    refine r_if_ne (pc := 18) (tgt := 23) hc dX6_survey_18 (by decide) (fun c18 => ?_) (fun c18 => ?_)
    · have hok := hok.2 c18
      have hq := o_qn hq c18
      refine r_iconst (pc := 23) (v := 0) hc dX6_survey_23 rfl ?_
      refine r_istore_n (pc := 24) (lv' := [(3, _), (0, _), (1, _), (2, _)]) hc dX6_survey_24 rfl (by decide) rfl ?_
      refine r_bipush (pc := 25) (v := (-4)) hc dX6_survey_25 (by decide) ?_
      refine r_istore (pc := 27) (lv' := [(4, _), (3, _), (0, _), (1, _), (2, _)]) hc dX6_survey_27 (by decide) rfl ?_
      refine r_iconst (pc := 29) (v := 0) hc dX6_survey_29 rfl ?_
      refine r_istore (pc := 30) (lv' := [(5, _), (4, _), (3, _), (0, _), (1, _), (2, _)]) hc dX6_survey_30 (by decide) rfl ?_
      refine r_iconst (pc := 32) (v := 0) hc dX6_survey_32 rfl ?_
      refine r_istore (pc := 33) (lv' := [(6, _), (5, _), (4, _), (3, _), (0, _), (1, _), (2, _)]) hc dX6_survey_33 (by decide) rfl ?_
      exact o_V.sub (t_X6_survey_35  hc hr oF _ _ _ _ _ _ _ hok hq) [4, 5, 6, 3, 2, 1, 0] rfl
    · have hok := hok.1 c18
      have hq := o_qp hq c18
      refine r_iconst (pc := 21) (v := (-1)) hc dX6_survey_21 rfl ?_
      exact r_iret hc hr rfl dX6_survey_22 (hq (_, _) rfl)
noncomputable def f_X6_turn_70  : Nat → Int32 → Int32 → Sg → Int32 × Sg
  | 0 => fun _ _ σ => (0, σ)
  | n + 1 => fun x2 x3 σ =>
    o_ite (x2 = ((σ 35 0) / 1020)) (
      ((σ 35 0), σ)) (
      let σ2 := f_X6_crosses x3 σ
      f_X6_turn_70 n (x2 + x3) x3 σ2)
def ok_X6_turn_70  : Nat → Int32 → Int32 → Sg → Prop
  | 0 => fun _ _ _ => False
  | n + 1 => fun x2 x3 σ =>
    ((x2 = ((σ 35 0) / 1020)) →
      True) ∧ (¬ (x2 = ((σ 35 0) / 1020)) →
      (ok_X6_crosses x3 σ) ∧ (let σ2 := f_X6_crosses x3 σ
      ok_X6_turn_70  n (x2 + x3) x3 σ2))
noncomputable def f_X6_turn (p1 : Int32) (σ : Sg) : Int32 × Sg :=
  o_ite ((f_X6_in p1 (-9999) 9999 σ) = 0) (
    ((-1), σ)) (
    o_ite ((f_X6_in ((σ 35 0) + p1) 0 65279 σ) = 0) (
      ((-2), σ)) (
      let σ4 := f_X6_saves σ
      let σ5 := pu σ4 35 0 ((σ4 35 0) + p1)
      o_ite (p1 ≤ 0) (
        f_X6_turn_70  oF ((σ4 35 0) / 1020) (-1) σ5) (
        f_X6_turn_70  oF ((σ4 35 0) / 1020) 1 σ5)))
def ok_X6_turn (p1 : Int32) (σ : Sg) : Prop :=
  (ok_X6_in p1 (-9999) 9999 σ) ∧ ((((f_X6_in p1 (-9999) 9999 σ) = 0) →
    True) ∧ (¬ ((f_X6_in p1 (-9999) 9999 σ) = 0) →
    (ok_X6_in ((σ 35 0) + p1) 0 65279 σ) ∧ ((((f_X6_in ((σ 35 0) + p1) 0 65279 σ) = 0) →
      True) ∧ (¬ ((f_X6_in ((σ 35 0) + p1) 0 65279 σ) = 0) →
      (ok_X6_saves σ) ∧ (let σ4 := f_X6_saves σ
      let σ5 := pu σ4 35 0 ((σ4 35 0) + p1)
      ((p1 ≤ 0) →
        ok_X6_turn_70  oF ((σ4 35 0) / 1020) (-1) σ5) ∧ (¬ (p1 ≤ 0) →
        ok_X6_turn_70  oF ((σ4 35 0) / 1020) 1 σ5))))))
set_option maxHeartbeats 4000000 in
set_option maxRecDepth 100000 in
theorem t_X6_turn_70 {p : Program} {l : Launch} {e : Env} {s : State} {m : MethodId} {args : Array Value} {below : List Frame} {meth : Method} {c : Code} {G : Gt} {post : Int32 → Sg → Prop}   (hc : o_Cx p s m args meth c G cX6_turn yX6_turn.cls 4) (hr : meth.sig.returnType = (some .int)) : ∀ (n : Nat) (x2 : Int32) (x3 : Int32) (σ : Sg) (hok : ok_X6_turn_70  n x2 x3 σ) (hq : ∀ q : Int32 × Sg, q = f_X6_turn_70  n x2 x3 σ → post q.1 q.2), o_V p l e { frames := 2, cells := 0, slots := 0, locals := 44 } s m args below meth c (MQ below (va_Qi post (fun σ' t => o_W G σ' t.heap) (o_A G)) args s 0 0 (o_A G)) G 0 0 4 σ 70 [(0, .ref (gAd G 34)), (2, .int x2), (3, .int x3)] [] := by
  intro n
  induction n with
  | zero =>
    intro x2 x3 σ hok hq
    exact hok.elim
  | succ n ih =>
    intro x2 x3 σ hok hq
    refine r_iload_n (pc := 70) hc 1 dX6_turn_70 rfl rfl ?_
    refine r_aload_n (pc := 71) hc 0 dX6_turn_71 rfl rfl ?_
    refine r_getr (pc := 72) (j := 35) hc 0 kk6 (by decide) rfl (by decide) kF_X6_7 rfl rfl dX6_turn_72 ?_
    refine r_iconst (pc := 75) (v := 0) hc dX6_turn_75 rfl ?_
    refine r_iald (pc := 76) (k := 0) hc (by decide) rfl (by unfold vp_in; decide) (by decide) dX6_turn_76 ?_
    refine r_sipush (pc := 77) (v := 1020) hc dX6_turn_77 (by decide) ?_
    refine r_idiv (pc := 80) hc dX6_turn_80 (by decide) ?_
    refine r_icmp_eq (pc := 81) (tgt := 96) hc dX6_turn_81 (by decide) (fun c81 => ?_) (fun c81 => ?_)
    · have hok := hok.1 c81
      have hq := o_qp hq c81
      refine r_aload_n (pc := 96) hc 0 dX6_turn_96 rfl rfl ?_
      refine r_getr (pc := 97) (j := 35) hc 0 kk6 (by decide) rfl (by decide) kF_X6_7 rfl rfl dX6_turn_97 ?_
      refine r_iconst (pc := 100) (v := 0) hc dX6_turn_100 rfl ?_
      refine r_iald (pc := 101) (k := 0) hc (by decide) rfl (by unfold vp_in; decide) (by decide) dX6_turn_101 ?_
      exact r_iret hc hr rfl dX6_turn_102 (hq (_, _) rfl)
    · have hok := hok.2 c81
      have hq := o_qn hq c81
      refine r_aload_n (pc := 84) hc 0 dX6_turn_84 rfl rfl ?_
      refine r_iload_n (pc := 85) hc 2 dX6_turn_85 rfl rfl ?_
      obtain ⟨hs1, hok⟩ := hok
      refine r_callV_v (pc := 86) (as := [.int _]) hc (c_X6_crosses l G hs1) kk6 (by decide) rfl mV_X6_crosses kM_X6_48 ⟨Nat.le_of_ble_eq_true rfl, Nat.le_of_ble_eq_true rfl⟩ ⟨Nat.le_refl 0, Nat.le_refl 0⟩ rfl rfl (Nat.le_of_ble_eq_true rfl) dX6_turn_86 (fun σ' h => ?_)
      subst h
      refine r_iload_n (pc := 89) hc 1 dX6_turn_89 rfl rfl ?_
      refine r_iload_n (pc := 90) hc 2 dX6_turn_90 rfl rfl ?_
      refine r_iadd (pc := 91) hc dX6_turn_91 ?_
      refine r_istore_n (pc := 92) (lv' := [(2, _), (0, _), (3, _)]) hc dX6_turn_92 rfl (by decide) rfl ?_
      refine r_goto (pc := 93) (tgt := 70) hc dX6_turn_93 (by decide) ?_
      exact o_V.sub (ih _ _ _ hok hq) [1, 0, 2] rfl
set_option maxHeartbeats 4000000 in
set_option maxRecDepth 100000 in
theorem c_X6_turn (l : Launch) (G : Gt) {p1 : Int32}  {σ : Sg} (hok : ok_X6_turn p1 σ) : o_Ci l G yX6_turn cX6_turn 4 (some .int) 2 44 [.ref (gAd G 34), .int p1] σ (fun r σ' => r = (f_X6_turn p1 σ).1 ∧ σ' = (f_X6_turn p1 σ).2) := by
  refine o_Ci.of (by decide +kernel) (Nat.le_of_ble_eq_true rfl) ?_
  intro p e s m args below meth c hc hr
  have hq : ∀ q : Int32 × Sg, q = f_X6_turn p1 σ → (fun r σ' => r = (f_X6_turn p1 σ).1 ∧ σ' = (f_X6_turn p1 σ).2) q.1 q.2 := fun q h => ⟨congrArg Prod.fst h, congrArg Prod.snd h⟩
  refine r_iload_n (pc := 0) hc 1 dX6_turn_0 rfl rfl ?_
  refine r_sipush (pc := 1) (v := (-9999)) hc dX6_turn_1 (by decide) ?_
  refine r_sipush (pc := 4) (v := 9999) hc dX6_turn_4 (by decide) ?_
  obtain ⟨hs1, hok⟩ := hok
  refine r_callS_i (pc := 7) (as := [.int _, .int _, .int _]) hc (c_X6_in l G hs1) mS_X6_in kM_X6_32 ⟨Nat.le_of_ble_eq_true rfl, Nat.le_of_ble_eq_true rfl⟩ ⟨Nat.le_refl 0, Nat.le_refl 0⟩ rfl rfl (Nat.le_of_ble_eq_true rfl) dX6_turn_7 (fun r σ' h => ?_)
  obtain ⟨rfl, rfl⟩ := h
  refine r_if_ne (pc := 10) (tgt := 15) hc dX6_turn_10 (by decide) (fun c10 => ?_) (fun c10 => ?_)
  · have hok := hok.2 c10
    have hq := o_qn hq c10
    refine r_aload_n (pc := 15) hc 0 dX6_turn_15 rfl rfl ?_
    refine r_getr (pc := 16) (j := 35) hc 0 kk6 (by decide) rfl (by decide) kF_X6_7 rfl rfl dX6_turn_16 ?_
    refine r_iconst (pc := 19) (v := 0) hc dX6_turn_19 rfl ?_
    refine r_iald (pc := 20) (k := 0) hc (by decide) rfl (by unfold vp_in; decide) (by decide) dX6_turn_20 ?_
    refine r_iload_n (pc := 21) hc 1 dX6_turn_21 rfl rfl ?_
    refine r_iadd (pc := 22) hc dX6_turn_22 ?_
    refine r_iconst (pc := 23) (v := 0) hc dX6_turn_23 rfl ?_
    refine r_ldc (pc := 24) (v := 65279) hc kK_X6_47 dX6_turn_24 ?_
    obtain ⟨hs2, hok⟩ := hok
    refine r_callS_i (pc := 26) (as := [.int _, .int _, .int _]) hc (c_X6_in l G hs2) mS_X6_in kM_X6_32 ⟨Nat.le_of_ble_eq_true rfl, Nat.le_of_ble_eq_true rfl⟩ ⟨Nat.le_refl 0, Nat.le_refl 0⟩ rfl rfl (Nat.le_of_ble_eq_true rfl) dX6_turn_26 (fun r σ' h => ?_)
    obtain ⟨rfl, rfl⟩ := h
    refine r_if_ne (pc := 29) (tgt := 35) hc dX6_turn_29 (by decide) (fun c29 => ?_) (fun c29 => ?_)
    · have hok := hok.2 c29
      have hq := o_qn hq c29
      refine r_aload_n (pc := 35) hc 0 dX6_turn_35 rfl rfl ?_
      obtain ⟨hs3, hok⟩ := hok
      refine r_callV_v (pc := 36) (as := []) hc (c_X6_saves l G hs3) kk6 (by decide) rfl mV_X6_saves kM_X6_44 ⟨Nat.le_of_ble_eq_true rfl, Nat.le_of_ble_eq_true rfl⟩ ⟨Nat.le_refl 0, Nat.le_refl 0⟩ rfl rfl (Nat.le_of_ble_eq_true rfl) dX6_turn_36 (fun σ' h => ?_)
      subst h
      refine r_aload_n (pc := 39) hc 0 dX6_turn_39 rfl rfl ?_
      refine r_getr (pc := 40) (j := 35) hc 0 kk6 (by decide) rfl (by decide) kF_X6_7 rfl rfl dX6_turn_40 ?_
      refine r_iconst (pc := 43) (v := 0) hc dX6_turn_43 rfl ?_
      refine r_iald (pc := 44) (k := 0) hc (by decide) rfl (by unfold vp_in; decide) (by decide) dX6_turn_44 ?_
      refine r_sipush (pc := 45) (v := 1020) hc dX6_turn_45 (by decide) ?_
      refine r_idiv (pc := 48) hc dX6_turn_48 (by decide) ?_
      refine r_istore_n (pc := 49) (lv' := [(2, _), (0, _), (1, _)]) hc dX6_turn_49 rfl (by decide) rfl ?_
      refine r_aload_n (pc := 50) hc 1 dX6_turn_50 rfl rfl ?_
      refine r_getr (pc := 51) (j := 35) hc 0 kk6 (by decide) rfl (by decide) kF_X6_7 rfl rfl dX6_turn_51 ?_
      refine r_iconst (pc := 54) (v := 0) hc dX6_turn_54 rfl ?_
      refine r_dup2 (pc := 55) hc dX6_turn_55 rfl rfl ?_
      refine r_iald (pc := 56) (k := 0) hc (by decide) rfl (by unfold vp_in; decide) (by decide) dX6_turn_56 ?_
      refine r_iload_n (pc := 57) hc 2 dX6_turn_57 rfl rfl ?_
      refine r_iadd (pc := 58) hc dX6_turn_58 ?_
      refine r_iast (pc := 59) (k := 0) hc (by decide) rfl (by unfold vp_in; decide) (by decide) dX6_turn_59 ?_
      refine r_iload_n (pc := 60) hc 2 dX6_turn_60 rfl rfl ?_
      refine r_if_le (pc := 61) (tgt := 68) hc dX6_turn_61 (by decide) (fun c61 => ?_) (fun c61 => ?_)
      · have hok := hok.1 c61
        have hq := o_qp hq c61
        refine r_iconst (pc := 68) (v := (-1)) hc dX6_turn_68 rfl ?_
        refine r_istore_n (pc := 69) (lv' := [(3, _), (2, _), (0, _), (1, _)]) hc dX6_turn_69 rfl (by decide) rfl ?_
        exact o_V.sub (t_X6_turn_70  hc hr oF _ _ _ hok hq) [2, 1, 0] rfl
      · have hok := hok.2 c61
        have hq := o_qn hq c61
        refine r_iconst (pc := 64) (v := 1) hc dX6_turn_64 rfl ?_
        refine r_goto (pc := 65) (tgt := 69) hc dX6_turn_65 (by decide) ?_
        refine r_istore_n (pc := 69) (lv' := [(3, _), (2, _), (0, _), (1, _)]) hc dX6_turn_69 rfl (by decide) rfl ?_
        exact o_V.sub (t_X6_turn_70  hc hr oF _ _ _ hok hq) [2, 1, 0] rfl
    · have hok := hok.1 c29
      have hq := o_qp hq c29
      refine r_bipush (pc := 32) (v := (-2)) hc dX6_turn_32 (by decide) ?_
      exact r_iret hc hr rfl dX6_turn_34 (hq (_, _) rfl)
  · have hok := hok.1 c10
    have hq := o_qp hq c10
    refine r_iconst (pc := 13) (v := (-1)) hc dX6_turn_13 rfl ?_
    exact r_iret hc hr rfl dX6_turn_14 (hq (_, _) rfl)
noncomputable def f_X6_type (p1 : Int32) (σ : Sg) : Int32 × Sg :=
  o_ite ((f_X6_in p1 32 126 σ) = 0) (
    ((-1), σ)) (
    o_ite ((σ 34 4) = 60) (
      ((-3), σ)) (
      let σ3 := pu σ 37 (σ 34 4).toNatClampNeg p1
      let σ4 := pu σ3 34 4 ((σ3 34 4) + 1)
      ((σ4 34 4), σ4)))
def ok_X6_type (p1 : Int32) (σ : Sg) : Prop :=
  (ok_X6_in p1 32 126 σ) ∧ ((((f_X6_in p1 32 126 σ) = 0) →
    True) ∧ (¬ ((f_X6_in p1 32 126 σ) = 0) →
    (((σ 34 4) = 60) →
      True) ∧ (¬ ((σ 34 4) = 60) →
      (vp_in (σ 34 4) 60) ∧ (let σ3 := pu σ 37 (σ 34 4).toNatClampNeg p1
      let σ4 := pu σ3 34 4 ((σ3 34 4) + 1)
      True))))
set_option maxHeartbeats 4000000 in
set_option maxRecDepth 100000 in
theorem c_X6_type (l : Launch) (G : Gt) {p1 : Int32}  {σ : Sg} (hok : ok_X6_type p1 σ) : o_Ci l G yX6_type cX6_type 2 (some .int) 1 22 [.ref (gAd G 34), .int p1] σ (fun r σ' => r = (f_X6_type p1 σ).1 ∧ σ' = (f_X6_type p1 σ).2) := by
  refine o_Ci.of (by decide +kernel) (Nat.le_of_ble_eq_true rfl) ?_
  intro p e s m args below meth c hc hr
  have hq : ∀ q : Int32 × Sg, q = f_X6_type p1 σ → (fun r σ' => r = (f_X6_type p1 σ).1 ∧ σ' = (f_X6_type p1 σ).2) q.1 q.2 := fun q h => ⟨congrArg Prod.fst h, congrArg Prod.snd h⟩
  refine r_iload_n (pc := 0) hc 1 dX6_type_0 rfl rfl ?_
  refine r_bipush (pc := 1) (v := 32) hc dX6_type_1 (by decide) ?_
  refine r_bipush (pc := 3) (v := 126) hc dX6_type_3 (by decide) ?_
  obtain ⟨hs1, hok⟩ := hok
  refine r_callS_i (pc := 5) (as := [.int _, .int _, .int _]) hc (c_X6_in l G hs1) mS_X6_in kM_X6_32 ⟨Nat.le_of_ble_eq_true rfl, Nat.le_of_ble_eq_true rfl⟩ ⟨Nat.le_refl 0, Nat.le_refl 0⟩ rfl rfl (Nat.le_of_ble_eq_true rfl) dX6_type_5 (fun r σ' h => ?_)
  obtain ⟨rfl, rfl⟩ := h
  refine r_if_ne (pc := 8) (tgt := 13) hc dX6_type_8 (by decide) (fun c8 => ?_) (fun c8 => ?_)
  · have hok := hok.2 c8
    have hq := o_qn hq c8
    refine r_aload_n (pc := 13) hc 0 dX6_type_13 rfl rfl ?_
    refine r_geti (pc := 14) hc 4 kk6 (by decide) rfl (by decide) kF_X6_65 rfl rfl dX6_type_14 ?_
    refine r_bipush (pc := 17) (v := 60) hc dX6_type_17 (by decide) ?_
    refine r_icmp_ne (pc := 19) (tgt := 25) hc dX6_type_19 (by decide) (fun c19 => ?_) (fun c19 => ?_)
    · have hok := hok.2 c19
      have hq := o_qn hq c19
      refine r_aload_n (pc := 25) hc 0 dX6_type_25 rfl rfl ?_
      refine r_getr (pc := 26) (j := 37) hc 3 kk6 (by decide) rfl (by decide) kF_X6_16 rfl rfl dX6_type_26 ?_
      refine r_aload_n (pc := 29) hc 0 dX6_type_29 rfl rfl ?_
      refine r_geti (pc := 30) hc 4 kk6 (by decide) rfl (by decide) kF_X6_65 rfl rfl dX6_type_30 ?_
      refine r_iload_n (pc := 33) hc 1 dX6_type_33 rfl rfl ?_
      obtain ⟨hs2, hok⟩ := hok
      refine r_iast (pc := 34) (k := _) hc (by decide) rfl hs2 rfl dX6_type_34 ?_
      refine r_aload_n (pc := 35) hc 0 dX6_type_35 rfl rfl ?_
      refine r_dup (pc := 36) hc dX6_type_36 rfl ?_
      refine r_geti (pc := 37) hc 4 kk6 (by decide) rfl (by decide) kF_X6_65 rfl rfl dX6_type_37 ?_
      refine r_iconst (pc := 40) (v := 1) hc dX6_type_40 rfl ?_
      refine r_iadd (pc := 41) hc dX6_type_41 ?_
      refine r_put (pc := 42) hc 4 kk6 (by decide) rfl (by decide) kF_X6_65 rfl rfl rfl rfl rfl dX6_type_42 ?_
      refine r_aload_n (pc := 45) hc 0 dX6_type_45 rfl rfl ?_
      refine r_geti (pc := 46) hc 4 kk6 (by decide) rfl (by decide) kF_X6_65 rfl rfl dX6_type_46 ?_
      exact r_iret hc hr rfl dX6_type_49 (hq (_, _) rfl)
    · have hok := hok.1 c19
      have hq := o_qp hq c19
      refine r_bipush (pc := 22) (v := (-3)) hc dX6_type_22 (by decide) ?_
      exact r_iret hc hr rfl dX6_type_24 (hq (_, _) rfl)
  · have hok := hok.1 c8
    have hq := o_qp hq c8
    refine r_iconst (pc := 11) (v := (-1)) hc dX6_type_11 rfl ?_
    exact r_iret hc hr rfl dX6_type_12 (hq (_, _) rfl)
noncomputable def f_X6_undo_22  : Nat → Int32 → Sg → Int32 × Sg
  | 0 => fun _ σ => (0, σ)
  | n + 1 => fun x1 σ =>
    o_ite (62 ≤ x1) (
      ((σ 34 2), σ)) (
      let σ3 := pu σ 35 x1.toNatClampNeg (σ 36 ((62 * (σ 34 2)) + x1).toNatClampNeg)
      f_X6_undo_22 n (x1 + 1) σ3)
def ok_X6_undo_22  : Nat → Int32 → Sg → Prop
  | 0 => fun _ _ => False
  | n + 1 => fun x1 σ =>
    ((62 ≤ x1) →
      True) ∧ (¬ (62 ≤ x1) →
      (vp_in ((62 * (σ 34 2)) + x1) 248) ∧ ((vp_in x1 62) ∧ (let σ3 := pu σ 35 x1.toNatClampNeg (σ 36 ((62 * (σ 34 2)) + x1).toNatClampNeg)
      ok_X6_undo_22  n (x1 + 1) σ3)))
noncomputable def f_X6_undo  (σ : Sg) : Int32 × Sg :=
  o_ite ((σ 34 2) = 0) (
    ((-2), σ)) (
    let σ1 := pu σ 34 2 ((σ 34 2) - 1)
    f_X6_undo_22  oF 0 σ1)
def ok_X6_undo  (σ : Sg) : Prop :=
  (((σ 34 2) = 0) →
    True) ∧ (¬ ((σ 34 2) = 0) →
    let σ1 := pu σ 34 2 ((σ 34 2) - 1)
    ok_X6_undo_22  oF 0 σ1)
set_option maxHeartbeats 4000000 in
set_option maxRecDepth 100000 in
theorem t_X6_undo_22 {p : Program} {l : Launch} {e : Env} {s : State} {m : MethodId} {args : Array Value} {below : List Frame} {meth : Method} {c : Code} {G : Gt} {post : Int32 → Sg → Prop}   (hc : o_Cx p s m args meth c G cX6_undo yX6_undo.cls 2) (hr : meth.sig.returnType = (some .int)) : ∀ (n : Nat) (x1 : Int32) (σ : Sg) (hok : ok_X6_undo_22  n x1 σ) (hq : ∀ q : Int32 × Sg, q = f_X6_undo_22  n x1 σ → post q.1 q.2), o_V p l e { frames := 0, cells := 0, slots := 0, locals := 0 } s m args below meth c (MQ below (va_Qi post (fun σ' t => o_W G σ' t.heap) (o_A G)) args s 0 0 (o_A G)) G 0 0 2 σ 22 [(0, .ref (gAd G 34)), (1, .int x1)] [] := by
  intro n
  induction n with
  | zero =>
    intro x1 σ hok hq
    exact hok.elim
  | succ n ih =>
    intro x1 σ hok hq
    refine r_iload_n (pc := 22) hc 1 dX6_undo_22 rfl rfl ?_
    refine r_bipush (pc := 23) (v := 62) hc dX6_undo_23 (by decide) ?_
    refine r_icmp_ge (pc := 25) (tgt := 54) hc dX6_undo_25 (by decide) (fun c25 => ?_) (fun c25 => ?_)
    · have hok := hok.1 c25
      have hq := o_qp hq c25
      refine r_aload_n (pc := 54) hc 0 dX6_undo_54 rfl rfl ?_
      refine r_geti (pc := 55) hc 2 kk6 (by decide) rfl (by decide) kF_X6_40 rfl rfl dX6_undo_55 ?_
      exact r_iret hc hr rfl dX6_undo_58 (hq (_, _) rfl)
    · have hok := hok.2 c25
      have hq := o_qn hq c25
      refine r_aload_n (pc := 28) hc 0 dX6_undo_28 rfl rfl ?_
      refine r_getr (pc := 29) (j := 35) hc 0 kk6 (by decide) rfl (by decide) kF_X6_7 rfl rfl dX6_undo_29 ?_
      refine r_iload_n (pc := 32) hc 1 dX6_undo_32 rfl rfl ?_
      refine r_aload_n (pc := 33) hc 0 dX6_undo_33 rfl rfl ?_
      refine r_getr (pc := 34) (j := 36) hc 1 kk6 (by decide) rfl (by decide) kF_X6_13 rfl rfl dX6_undo_34 ?_
      refine r_bipush (pc := 37) (v := 62) hc dX6_undo_37 (by decide) ?_
      refine r_aload_n (pc := 39) hc 0 dX6_undo_39 rfl rfl ?_
      refine r_geti (pc := 40) hc 2 kk6 (by decide) rfl (by decide) kF_X6_40 rfl rfl dX6_undo_40 ?_
      refine r_imul (pc := 43) hc dX6_undo_43 ?_
      refine r_iload_n (pc := 44) hc 1 dX6_undo_44 rfl rfl ?_
      refine r_iadd (pc := 45) hc dX6_undo_45 ?_
      obtain ⟨hs1, hok⟩ := hok
      refine r_iald (pc := 46) (k := _) hc (by decide) rfl hs1 rfl dX6_undo_46 ?_
      obtain ⟨hs2, hok⟩ := hok
      refine r_iast (pc := 47) (k := _) hc (by decide) rfl hs2 rfl dX6_undo_47 ?_
      refine r_iinc (pc := 48) (q := 1) (v := _ + 1) (lv' := [(1, _), (0, _)]) hc dX6_undo_48 rfl rfl (by decide) rfl ?_
      refine r_goto (pc := 51) (tgt := 22) hc dX6_undo_51 (by decide) ?_
      exact o_V.sub (ih _ _ hok hq) [1, 0] rfl
set_option maxHeartbeats 4000000 in
set_option maxRecDepth 100000 in
theorem c_X6_undo (l : Launch) (G : Gt)   {σ : Sg} (hok : ok_X6_undo  σ) : o_Ci l G yX6_undo cX6_undo 2 (some .int) 0 0 [.ref (gAd G 34)] σ (fun r σ' => r = (f_X6_undo  σ).1 ∧ σ' = (f_X6_undo  σ).2) := by
  refine o_Ci.of (by decide +kernel) (Nat.le_of_ble_eq_true rfl) ?_
  intro p e s m args below meth c hc hr
  have hq : ∀ q : Int32 × Sg, q = f_X6_undo  σ → (fun r σ' => r = (f_X6_undo  σ).1 ∧ σ' = (f_X6_undo  σ).2) q.1 q.2 := fun q h => ⟨congrArg Prod.fst h, congrArg Prod.snd h⟩
  refine r_aload_n (pc := 0) hc 0 dX6_undo_0 rfl rfl ?_
  refine r_geti (pc := 1) hc 2 kk6 (by decide) rfl (by decide) kF_X6_40 rfl rfl dX6_undo_1 ?_
  refine r_if_ne (pc := 4) (tgt := 10) hc dX6_undo_4 (by decide) (fun c4 => ?_) (fun c4 => ?_)
  · have hok := hok.2 c4
    have hq := o_qn hq c4
    refine r_aload_n (pc := 10) hc 0 dX6_undo_10 rfl rfl ?_
    refine r_dup (pc := 11) hc dX6_undo_11 rfl ?_
    refine r_geti (pc := 12) hc 2 kk6 (by decide) rfl (by decide) kF_X6_40 rfl rfl dX6_undo_12 ?_
    refine r_iconst (pc := 15) (v := 1) hc dX6_undo_15 rfl ?_
    refine r_isub (pc := 16) hc dX6_undo_16 ?_
    refine r_put (pc := 17) hc 2 kk6 (by decide) rfl (by decide) kF_X6_40 rfl rfl rfl rfl rfl dX6_undo_17 ?_
    refine r_iconst (pc := 20) (v := 0) hc dX6_undo_20 rfl ?_
    refine r_istore_n (pc := 21) (lv' := [(1, _), (0, _)]) hc dX6_undo_21 rfl (by decide) rfl ?_
    exact o_V.sub (t_X6_undo_22  hc hr oF _ _ hok hq) [1, 0] rfl
  · have hok := hok.1 c4
    have hq := o_qp hq c4
    refine r_bipush (pc := 7) (v := (-2)) hc dX6_undo_7 (by decide) ?_
    exact r_iret hc hr rfl dX6_undo_9 (hq (_, _) rfl)
