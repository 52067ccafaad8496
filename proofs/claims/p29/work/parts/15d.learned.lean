set_option linter.all false
noncomputable def f_L_isLearned_162  (x1 : Int32) (x2 : Int32) (x3 : Int32) (x5 : Int32) (x6 : Int32) (σ : Sg) : Int32 × Sg :=
  o_ite (x6 = 0) (
    (0, σ)) (
    o_ite (x5 = x3) (
      o_ite ((f_L_byTable x2 0 σ) = x1) (
        o_ite ((f_L_byTable x2 1 σ) = 0) (
          let q4 := f_X5_look 2 σ
          o_ite ((q4.1 / 510) = x2) (
            let q6 := f_X5_look 0 q4.2
            o_ite (q6.1 = x1) (
              let q8 := f_X5_look 1 q6.2
              o_ite (q8.1 = 0) (
                let q10 := f_X5_look 3 q8.2
                o_ite (q10.1 = 2) (
                  (1, q10.2)) (
                  (0, q10.2))) (
                (0, q8.2))) (
              (0, q6.2))) (
            (1, q4.2))) (
          (0, σ))) (
        (0, σ))) (
      (0, σ)))
def ok_L_isLearned_162  (x1 : Int32) (x2 : Int32) (x3 : Int32) (x5 : Int32) (x6 : Int32) (σ : Sg) : Prop :=
  ((x6 = 0) →
    True) ∧ (¬ (x6 = 0) →
    ((x5 = x3) →
      (ok_L_byTable x2 0 σ) ∧ ((((f_L_byTable x2 0 σ) = x1) →
        (ok_L_byTable x2 1 σ) ∧ ((((f_L_byTable x2 1 σ) = 0) →
          (ok_X5_look 2 σ) ∧ (let q4 := f_X5_look 2 σ
          (((q4.1 / 510) = x2) →
            (ok_X5_look 0 q4.2) ∧ (let q6 := f_X5_look 0 q4.2
            ((q6.1 = x1) →
              (ok_X5_look 1 q6.2) ∧ (let q8 := f_X5_look 1 q6.2
              ((q8.1 = 0) →
                (ok_X5_look 3 q8.2) ∧ (let q10 := f_X5_look 3 q8.2
                ((q10.1 = 2) →
                  True) ∧ (¬ (q10.1 = 2) →
                  True))) ∧ (¬ (q8.1 = 0) →
                True))) ∧ (¬ (q6.1 = x1) →
              True))) ∧ (¬ ((q4.1 / 510) = x2) →
            True))) ∧ (¬ ((f_L_byTable x2 1 σ) = 0) →
          True))) ∧ (¬ ((f_L_byTable x2 0 σ) = x1) →
        True))) ∧ (¬ (x5 = x3) →
      True))
noncomputable def f_L_isLearned_103 (K : Int32 → Int32 → Int32 → Int32 → Int32 → Int32 → Sg → Int32 × Sg) (x1 : Int32) (x2 : Int32) (x5 : Int32) (x7 : Int32) (x8 : Int32) (y0 : Int32) (y1 : Int32) (σ : Sg) : Int32 × Sg :=
  o_ite (x8 ≤ 81) (
    K x1 x2 (y1 + y0) x5 0 (x7 + 1) σ) (
    o_ite (119 ≤ x8) (
      K x1 x2 (y1 + y0) x5 0 (x7 + 1) σ) (
      let r4 := f_L_rest (((f_X5_reading x7 σ) - x8) + 100) (f_L_period x7 σ) σ
      o_ite (r4 = (x1 - x1 / (f_L_period x7 σ) * (f_L_period x7 σ))) (
        K x1 x2 (y1 + y0) x5 1 (x7 + 1) σ) (
        K x1 x2 (y1 + y0) x5 0 (x7 + 1) σ)))
def ok_L_isLearned_103 (okK : Int32 → Int32 → Int32 → Int32 → Int32 → Int32 → Sg → Prop) (x1 : Int32) (x2 : Int32) (x5 : Int32) (x7 : Int32) (x8 : Int32) (y0 : Int32) (y1 : Int32) (σ : Sg) : Prop :=
  ((x8 ≤ 81) →
    okK x1 x2 (y1 + y0) x5 0 (x7 + 1) σ) ∧ (¬ (x8 ≤ 81) →
    ((119 ≤ x8) →
      okK x1 x2 (y1 + y0) x5 0 (x7 + 1) σ) ∧ (¬ (119 ≤ x8) →
      (ok_X5_reading x7 σ) ∧ ((ok_L_period x7 σ) ∧ ((ok_L_rest (((f_X5_reading x7 σ) - x8) + 100) (f_L_period x7 σ) σ) ∧ (let r4 := f_L_rest (((f_X5_reading x7 σ) - x8) + 100) (f_L_period x7 σ) σ
      (ok_L_period x7 σ) ∧ ((¬ (f_L_period x7 σ) = 0) ∧ (((r4 = (x1 - x1 / (f_L_period x7 σ) * (f_L_period x7 σ))) →
        okK x1 x2 (y1 + y0) x5 1 (x7 + 1) σ) ∧ (¬ (r4 = (x1 - x1 / (f_L_period x7 σ) * (f_L_period x7 σ))) →
        okK x1 x2 (y1 + y0) x5 0 (x7 + 1) σ))))))))
noncomputable def f_L_isLearned_67  : Nat → Int32 → Int32 → Int32 → Int32 → Int32 → Int32 → Sg → Int32 × Sg
  | 0 => fun _ _ _ _ _ _ σ => (0, σ)
  | n + 1 => fun x1 x2 x3 x5 x6 x7 σ =>
    o_ite (3 ≤ x7) (
      f_L_isLearned_162 x1 x2 x3 x5 x6 σ) (
      o_ite (x6 = 0) (
        f_L_isLearned_162 x1 x2 x3 x5 x6 σ) (
        o_ite ((f_X5_correction x7 x2 σ) = (σ 34 x7.toNatClampNeg)) (
          f_L_isLearned_103 (f_L_isLearned_67 n) x1 x2 x5 x7 (f_X5_correction x7 x2 σ) 0 x3 σ) (
          f_L_isLearned_103 (f_L_isLearned_67 n) x1 x2 x5 x7 (f_X5_correction x7 x2 σ) 1 x3 σ)))
def ok_L_isLearned_67  : Nat → Int32 → Int32 → Int32 → Int32 → Int32 → Int32 → Sg → Prop
  | 0 => fun _ _ _ _ _ _ _ => False
  | n + 1 => fun x1 x2 x3 x5 x6 x7 σ =>
    ((3 ≤ x7) →
      ok_L_isLearned_162 x1 x2 x3 x5 x6 σ) ∧ (¬ (3 ≤ x7) →
      ((x6 = 0) →
        ok_L_isLearned_162 x1 x2 x3 x5 x6 σ) ∧ (¬ (x6 = 0) →
        (ok_X5_correction x7 x2 σ) ∧ ((vp_in x7 3) ∧ ((((f_X5_correction x7 x2 σ) = (σ 34 x7.toNatClampNeg)) →
          ok_L_isLearned_103 (ok_L_isLearned_67 n) x1 x2 x5 x7 (f_X5_correction x7 x2 σ) 0 x3 σ) ∧ (¬ ((f_X5_correction x7 x2 σ) = (σ 34 x7.toNatClampNeg)) →
          ok_L_isLearned_103 (ok_L_isLearned_67 n) x1 x2 x5 x7 (f_X5_correction x7 x2 σ) 1 x3 σ)))))
noncomputable def f_L_isLearned_22  : Nat → Int32 → Int32 → Int32 → Int32 → Sg → Int32 × Sg
  | 0 => fun _ _ _ _ σ => (0, σ)
  | n + 1 => fun x1 x2 x3 x5 σ =>
    o_ite (3 ≤ x5) (
      let q2 := f_X5_learn σ
      o_ite (q2.1 < 0) (
        f_L_isLearned_67  oF x1 x2 x3 (q2.1) 0 0 q2.2) (
        f_L_isLearned_67  oF x1 x2 x3 (q2.1) 1 0 q2.2)) (
      let σ5 := pu σ 34 x5.toNatClampNeg (f_X5_correction x5 x2 σ)
      f_L_isLearned_22 n x1 x2 x3 (x5 + 1) σ5)
def ok_L_isLearned_22  : Nat → Int32 → Int32 → Int32 → Int32 → Sg → Prop
  | 0 => fun _ _ _ _ _ => False
  | n + 1 => fun x1 x2 x3 x5 σ =>
    ((3 ≤ x5) →
      (ok_X5_learn σ) ∧ (let q2 := f_X5_learn σ
      ((q2.1 < 0) →
        ok_L_isLearned_67  oF x1 x2 x3 (q2.1) 0 0 q2.2) ∧ (¬ (q2.1 < 0) →
        ok_L_isLearned_67  oF x1 x2 x3 (q2.1) 1 0 q2.2))) ∧ (¬ (3 ≤ x5) →
      (ok_X5_correction x5 x2 σ) ∧ ((vp_in x5 3) ∧ (let σ5 := pu σ 34 x5.toNatClampNeg (f_X5_correction x5 x2 σ)
      ok_L_isLearned_22  n x1 x2 x3 (x5 + 1) σ5)))
noncomputable def f_L_isLearned  (σ : Sg) : Int32 × Sg :=
  let σ2 := nz σ
  f_L_isLearned_22  oF (f_X5_count 1 σ) ((f_X5_count 1 σ) / 510) 0 0 σ2
def ok_L_isLearned  (σ : Sg) : Prop :=
  (ok_X5_count 1 σ) ∧ (let σ2 := nz σ
  ok_L_isLearned_22  oF (f_X5_count 1 σ) ((f_X5_count 1 σ) / 510) 0 0 σ2)
set_option maxHeartbeats 4000000 in
set_option maxRecDepth 100000 in
theorem t_L_isLearned_162 {p : Program} {l : Launch} {e : Env} {s : State} {m : MethodId} {args : Array Value} {below : List Frame} {meth : Method} {c : Code} {G : Gt} {post : Int32 → Sg → Prop}  (hX : 34 < gN G) (hc : o_Cx p s m args meth c G cL_isLearned yL_isLearned.cls 9) (hr : meth.sig.returnType = (some .boolean)) {x1 : Int32} {x2 : Int32} {x3 : Int32} {x5 : Int32} {x6 : Int32} {σ : Sg} (hok : ok_L_isLearned_162  x1 x2 x3 x5 x6 σ) (hq : ∀ q : Int32 × Sg, q = f_L_isLearned_162  x1 x2 x3 x5 x6 σ → post q.1 q.2) : o_V p l e { frames := 7, cells := 1, slots := 3, locals := 166 } s m args below meth c (MQ below (va_Qi post (fun σ' t => o_W G σ' t.heap) (o_A G)) args s 1 3 (o_A G)) G 1 3 9 σ 162 [(0, .ref (gAd G 0)), (1, .int x1), (2, .int x2), (3, .int x3), (5, .int x5), (6, .int x6)] [] := by
  refine r_iload (pc := 162) hc 5 dL_isLearned_162 rfl ?_
  refine r_if_eq (pc := 164) (tgt := 235) hc dL_isLearned_164 (by decide) (fun c164 => ?_) (fun c164 => ?_)
  · have hok := hok.1 c164
    have hq := o_qp hq c164
    refine r_iconst (pc := 235) (v := 0) hc dL_isLearned_235 rfl ?_
    exact r_iret hc hr rfl dL_isLearned_236 (hq (_, _) rfl)
  · have hok := hok.2 c164
    have hq := o_qn hq c164
    refine r_iload (pc := 167) hc 4 dL_isLearned_167 rfl ?_
    refine r_iload_n (pc := 169) hc 3 dL_isLearned_169 rfl rfl ?_
    refine r_icmp_ne (pc := 170) (tgt := 235) hc dL_isLearned_170 (by decide) (fun c170 => ?_) (fun c170 => ?_)
    · have hok := hok.2 c170
      have hq := o_qn hq c170
      refine r_iconst (pc := 235) (v := 0) hc dL_isLearned_235 rfl ?_
      exact r_iret hc hr rfl dL_isLearned_236 (hq (_, _) rfl)
    · have hok := hok.1 c170
      have hq := o_qp hq c170
      refine r_aload_n (pc := 173) hc 0 dL_isLearned_173 rfl rfl ?_
      refine r_iload_n (pc := 174) hc 2 dL_isLearned_174 rfl rfl ?_
      refine r_iconst (pc := 175) (v := 0) hc dL_isLearned_175 rfl ?_
      obtain ⟨hs1, hok⟩ := hok
      refine r_callS_i (pc := 176) (as := [.ref (gAd G _), .int _, .int _]) hc (c_L_byTable l _ hs1) mS_L_byTable kM_L_101 ⟨Nat.le_of_ble_eq_true rfl, Nat.le_of_ble_eq_true rfl⟩ ⟨Nat.le_of_ble_eq_true rfl, Nat.le_of_ble_eq_true rfl⟩ rfl rfl (Nat.le_of_ble_eq_true rfl) dL_isLearned_176 (fun r σ' h => ?_)
      obtain ⟨rfl, rfl⟩ := h
      refine r_iload_n (pc := 179) hc 1 dL_isLearned_179 rfl rfl ?_
      refine r_icmp_ne (pc := 180) (tgt := 235) hc dL_isLearned_180 (by decide) (fun c180 => ?_) (fun c180 => ?_)
      · have hok := hok.2 c180
        have hq := o_qn hq c180
        refine r_iconst (pc := 235) (v := 0) hc dL_isLearned_235 rfl ?_
        exact r_iret hc hr rfl dL_isLearned_236 (hq (_, _) rfl)
      · have hok := hok.1 c180
        have hq := o_qp hq c180
        refine r_aload_n (pc := 183) hc 0 dL_isLearned_183 rfl rfl ?_
        refine r_iload_n (pc := 184) hc 2 dL_isLearned_184 rfl rfl ?_
        refine r_iconst (pc := 185) (v := 1) hc dL_isLearned_185 rfl ?_
        obtain ⟨hs2, hok⟩ := hok
        refine r_callS_i (pc := 186) (as := [.ref (gAd G _), .int _, .int _]) hc (c_L_byTable l _ hs2) mS_L_byTable kM_L_101 ⟨Nat.le_of_ble_eq_true rfl, Nat.le_of_ble_eq_true rfl⟩ ⟨Nat.le_of_ble_eq_true rfl, Nat.le_of_ble_eq_true rfl⟩ rfl rfl (Nat.le_of_ble_eq_true rfl) dL_isLearned_186 (fun r σ' h => ?_)
        obtain ⟨rfl, rfl⟩ := h
        refine r_if_ne (pc := 189) (tgt := 235) hc dL_isLearned_189 (by decide) (fun c189 => ?_) (fun c189 => ?_)
        · have hok := hok.2 c189
          have hq := o_qn hq c189
          refine r_iconst (pc := 235) (v := 0) hc dL_isLearned_235 rfl ?_
          exact r_iret hc hr rfl dL_isLearned_236 (hq (_, _) rfl)
        · have hok := hok.1 c189
          have hq := o_qp hq c189
          refine r_aload_n (pc := 192) hc 0 dL_isLearned_192 rfl rfl ?_
          refine r_iconst (pc := 193) (v := 2) hc dL_isLearned_193 rfl ?_
          obtain ⟨hs3, hok⟩ := hok
          refine r_callV_i (pc := 194) (as := [.int _]) hc (c_X5_look l _ hs3) kk5 (o_lt hc (by decide)) rfl mV_X5_look kM_L_66 ⟨Nat.le_of_ble_eq_true rfl, Nat.le_of_ble_eq_true rfl⟩ ⟨Nat.le_of_ble_eq_true rfl, Nat.le_of_ble_eq_true rfl⟩ rfl rfl (Nat.le_of_ble_eq_true rfl) dL_isLearned_194 (fun r σ' h => ?_)
          obtain ⟨rfl, rfl⟩ := h
          refine r_sipush (pc := 197) (v := 510) hc dL_isLearned_197 (by decide) ?_
          refine r_idiv (pc := 200) hc dL_isLearned_200 (by decide) ?_
          refine r_iload_n (pc := 201) hc 2 dL_isLearned_201 rfl rfl ?_
          refine r_icmp_ne (pc := 202) (tgt := 231) hc dL_isLearned_202 (by decide) (fun c202 => ?_) (fun c202 => ?_)
          · have hok := hok.2 c202
            have hq := o_qn hq c202
            refine r_iconst (pc := 231) (v := 1) hc dL_isLearned_231 rfl ?_
            refine r_goto (pc := 232) (tgt := 236) hc dL_isLearned_232 (by decide) ?_
            exact r_iret hc hr rfl dL_isLearned_236 (hq (_, _) rfl)
          · have hok := hok.1 c202
            have hq := o_qp hq c202
            refine r_aload_n (pc := 205) hc 0 dL_isLearned_205 rfl rfl ?_
            refine r_iconst (pc := 206) (v := 0) hc dL_isLearned_206 rfl ?_
            obtain ⟨hs5, hok⟩ := hok
            refine r_callV_i (pc := 207) (as := [.int _]) hc (c_X5_look l _ hs5) kk5 (o_lt hc (by decide)) rfl mV_X5_look kM_L_66 ⟨Nat.le_of_ble_eq_true rfl, Nat.le_of_ble_eq_true rfl⟩ ⟨Nat.le_of_ble_eq_true rfl, Nat.le_of_ble_eq_true rfl⟩ rfl rfl (Nat.le_of_ble_eq_true rfl) dL_isLearned_207 (fun r σ' h => ?_)
            obtain ⟨rfl, rfl⟩ := h
            refine r_iload_n (pc := 210) hc 1 dL_isLearned_210 rfl rfl ?_
            refine r_icmp_ne (pc := 211) (tgt := 235) hc dL_isLearned_211 (by decide) (fun c211 => ?_) (fun c211 => ?_)
            · have hok := hok.2 c211
              have hq := o_qn hq c211
              refine r_iconst (pc := 235) (v := 0) hc dL_isLearned_235 rfl ?_
              exact r_iret hc hr rfl dL_isLearned_236 (hq (_, _) rfl)
            · have hok := hok.1 c211
              have hq := o_qp hq c211
              refine r_aload_n (pc := 214) hc 0 dL_isLearned_214 rfl rfl ?_
              refine r_iconst (pc := 215) (v := 1) hc dL_isLearned_215 rfl ?_
              obtain ⟨hs7, hok⟩ := hok
              refine r_callV_i (pc := 216) (as := [.int _]) hc (c_X5_look l _ hs7) kk5 (o_lt hc (by decide)) rfl mV_X5_look kM_L_66 ⟨Nat.le_of_ble_eq_true rfl, Nat.le_of_ble_eq_true rfl⟩ ⟨Nat.le_of_ble_eq_true rfl, Nat.le_of_ble_eq_true rfl⟩ rfl rfl (Nat.le_of_ble_eq_true rfl) dL_isLearned_216 (fun r σ' h => ?_)
              obtain ⟨rfl, rfl⟩ := h
              refine r_if_ne (pc := 219) (tgt := 235) hc dL_isLearned_219 (by decide) (fun c219 => ?_) (fun c219 => ?_)
              · have hok := hok.2 c219
                have hq := o_qn hq c219
                refine r_iconst (pc := 235) (v := 0) hc dL_isLearned_235 rfl ?_
                exact r_iret hc hr rfl dL_isLearned_236 (hq (_, _) rfl)
              · have hok := hok.1 c219
                have hq := o_qp hq c219
                refine r_aload_n (pc := 222) hc 0 dL_isLearned_222 rfl rfl ?_
                refine r_iconst (pc := 223) (v := 3) hc dL_isLearned_223 rfl ?_
                obtain ⟨hs9, hok⟩ := hok
                refine r_callV_i (pc := 224) (as := [.int _]) hc (c_X5_look l _ hs9) kk5 (o_lt hc (by decide)) rfl mV_X5_look kM_L_66 ⟨Nat.le_of_ble_eq_true rfl, Nat.le_of_ble_eq_true rfl⟩ ⟨Nat.le_of_ble_eq_true rfl, Nat.le_of_ble_eq_true rfl⟩ rfl rfl (Nat.le_of_ble_eq_true rfl) dL_isLearned_224 (fun r σ' h => ?_)
                obtain ⟨rfl, rfl⟩ := h
                refine r_iconst (pc := 227) (v := 2) hc dL_isLearned_227 rfl ?_
                refine r_icmp_ne (pc := 228) (tgt := 235) hc dL_isLearned_228 (by decide) (fun c228 => ?_) (fun c228 => ?_)
                · have hok := hok.2 c228
                  have hq := o_qn hq c228
                  refine r_iconst (pc := 235) (v := 0) hc dL_isLearned_235 rfl ?_
                  exact r_iret hc hr rfl dL_isLearned_236 (hq (_, _) rfl)
                · have hok := hok.1 c228
                  have hq := o_qp hq c228
                  refine r_iconst (pc := 231) (v := 1) hc dL_isLearned_231 rfl ?_
                  refine r_goto (pc := 232) (tgt := 236) hc dL_isLearned_232 (by decide) ?_
                  exact r_iret hc hr rfl dL_isLearned_236 (hq (_, _) rfl)
set_option maxHeartbeats 4000000 in
set_option maxRecDepth 100000 in
theorem t_L_isLearned_103 {p : Program} {l : Launch} {e : Env} {s : State} {m : MethodId} {args : Array Value} {below : List Frame} {meth : Method} {c : Code} {G : Gt} {post : Int32 → Sg → Prop} (hX : 34 < gN G) (hc : o_Cx p s m args meth c G cL_isLearned yL_isLearned.cls 9) (hr : meth.sig.returnType = (some .boolean)) {K : Int32 → Int32 → Int32 → Int32 → Int32 → Int32 → Sg → Int32 × Sg} {okK : Int32 → Int32 → Int32 → Int32 → Int32 → Int32 → Sg → Prop} (hK : ∀ (z1 : Int32) (z2 : Int32) (z3 : Int32) (z5 : Int32) (z6 : Int32) (z7 : Int32) (zs : Sg), okK z1 z2 z3 z5 z6 z7 zs → (∀ q : Int32 × Sg, q = K z1 z2 z3 z5 z6 z7 zs → post q.1 q.2) → o_V p l e { frames := 7, cells := 1, slots := 3, locals := 166 } s m args below meth c (MQ below (va_Qi post (fun σ' t => o_W G σ' t.heap) (o_A G)) args s 1 3 (o_A G)) G 1 3 9 zs 67 [(0, .ref (gAd G 0)), (1, .int z1), (2, .int z2), (3, .int z3), (4, .ref (gAd G 34)), (5, .int z5), (6, .int z6), (7, .int z7)] []) {x1 : Int32} {x2 : Int32} {x5 : Int32} {x7 : Int32} {x8 : Int32} {y0 : Int32} {y1 : Int32} {σ : Sg} (hok : ok_L_isLearned_103 okK x1 x2 x5 x7 x8 y0 y1 σ) (hq : ∀ q : Int32 × Sg, q = f_L_isLearned_103 K x1 x2 x5 x7 x8 y0 y1 σ → post q.1 q.2) : o_V p l e { frames := 7, cells := 1, slots := 3, locals := 166 } s m args below meth c (MQ below (va_Qi post (fun σ' t => o_W G σ' t.heap) (o_A G)) args s 1 3 (o_A G)) G 1 3 9 σ 103 [(0, .ref (gAd G 0)), (1, .int x1), (2, .int x2), (4, .ref (gAd G 34)), (5, .int x5), (7, .int x7), (8, .int x8)] [.int y0, .int y1] := by
  refine r_iadd (pc := 103) hc dL_isLearned_103 ?_
  refine r_istore_n (pc := 104) (lv' := [(3, _), (0, _), (1, _), (2, _), (4, _), (5, _), (7, _), (8, _)]) hc dL_isLearned_104 rfl (by decide) rfl ?_
  refine r_iload (pc := 105) hc 7 dL_isLearned_105 rfl ?_
  refine r_bipush (pc := 107) (v := 81) hc dL_isLearned_107 (by decide) ?_
  refine r_icmp_le (pc := 109) (tgt := 153) hc dL_isLearned_109 (by decide) (fun c109 => ?_) (fun c109 => ?_)
  · have hok := hok.1 c109
    have hq := o_qp hq c109
    refine r_iconst (pc := 153) (v := 0) hc dL_isLearned_153 rfl ?_
    refine r_istore (pc := 154) (lv' := [(6, _), (3, _), (0, _), (1, _), (2, _), (4, _), (5, _), (7, _), (8, _)]) hc dL_isLearned_154 (by decide) rfl ?_
    refine r_iinc (pc := 156) (q := 7) (v := _ + 1) (lv' := [(7, _), (6, _), (3, _), (0, _), (1, _), (2, _), (4, _), (5, _), (8, _)]) hc dL_isLearned_156 rfl rfl (by decide) rfl ?_
    refine r_goto (pc := 159) (tgt := 67) hc dL_isLearned_159 (by decide) ?_
    exact o_V.sub (hK _ _ _ _ _ _ _ hok hq) [3, 4, 5, 2, 6, 7, 1, 0] rfl
  · have hok := hok.2 c109
    have hq := o_qn hq c109
    refine r_iload (pc := 112) hc 7 dL_isLearned_112 rfl ?_
    refine r_bipush (pc := 114) (v := 119) hc dL_isLearned_114 (by decide) ?_
    refine r_icmp_ge (pc := 116) (tgt := 153) hc dL_isLearned_116 (by decide) (fun c116 => ?_) (fun c116 => ?_)
    · have hok := hok.1 c116
      have hq := o_qp hq c116
      refine r_iconst (pc := 153) (v := 0) hc dL_isLearned_153 rfl ?_
      refine r_istore (pc := 154) (lv' := [(6, _), (3, _), (0, _), (1, _), (2, _), (4, _), (5, _), (7, _), (8, _)]) hc dL_isLearned_154 (by decide) rfl ?_
      refine r_iinc (pc := 156) (q := 7) (v := _ + 1) (lv' := [(7, _), (6, _), (3, _), (0, _), (1, _), (2, _), (4, _), (5, _), (8, _)]) hc dL_isLearned_156 rfl rfl (by decide) rfl ?_
      refine r_goto (pc := 159) (tgt := 67) hc dL_isLearned_159 (by decide) ?_
      exact o_V.sub (hK _ _ _ _ _ _ _ hok hq) [3, 4, 5, 2, 6, 7, 1, 0] rfl
    · have hok := hok.2 c116
      have hq := o_qn hq c116
      refine r_aload_n (pc := 119) hc 1 dL_isLearned_119 rfl rfl ?_
      refine r_iload (pc := 120) hc 6 dL_isLearned_120 rfl ?_
      obtain ⟨hs1, hok⟩ := hok
      refine r_callV_i (pc := 122) (as := [.int _]) hc (c_X5_reading l _ hs1) kk5 (o_lt hc (by decide)) rfl mV_X5_reading kM_L_30 ⟨Nat.le_of_ble_eq_true rfl, Nat.le_of_ble_eq_true rfl⟩ ⟨Nat.le_of_ble_eq_true rfl, Nat.le_of_ble_eq_true rfl⟩ rfl rfl (Nat.le_of_ble_eq_true rfl) dL_isLearned_122 (fun r σ' h => ?_)
      obtain ⟨rfl, rfl⟩ := h
      refine r_iload (pc := 125) hc 7 dL_isLearned_125 rfl ?_
      refine r_isub (pc := 127) hc dL_isLearned_127 ?_
      refine r_bipush (pc := 128) (v := 100) hc dL_isLearned_128 (by decide) ?_
      refine r_iadd (pc := 130) hc dL_isLearned_130 ?_
      refine r_iload (pc := 131) hc 6 dL_isLearned_131 rfl ?_
      obtain ⟨hs2, hok⟩ := hok
      refine r_callS_i (pc := 133) (as := [.int _]) hc (c_L_period l _ hs2) mS_L_period kM_L_98 ⟨Nat.le_of_ble_eq_true rfl, Nat.le_of_ble_eq_true rfl⟩ ⟨Nat.le_of_ble_eq_true rfl, Nat.le_of_ble_eq_true rfl⟩ rfl rfl (Nat.le_of_ble_eq_true rfl) dL_isLearned_133 (fun r σ' h => ?_)
      obtain ⟨rfl, rfl⟩ := h
      obtain ⟨hs3, hok⟩ := hok
      refine r_callS_i (pc := 136) (as := [.int _, .int _]) hc (c_L_rest l _ hs3) mS_L_rest kM_L_9 ⟨Nat.le_of_ble_eq_true rfl, Nat.le_of_ble_eq_true rfl⟩ ⟨Nat.le_of_ble_eq_true rfl, Nat.le_of_ble_eq_true rfl⟩ rfl rfl (Nat.le_of_ble_eq_true rfl) dL_isLearned_136 (fun r σ' h => ?_)
      obtain ⟨rfl, rfl⟩ := h
      refine r_iload_n (pc := 139) hc 2 dL_isLearned_139 rfl rfl ?_
      refine r_iload (pc := 140) hc 6 dL_isLearned_140 rfl ?_
      obtain ⟨hs5, hok⟩ := hok
      refine r_callS_i (pc := 142) (as := [.int _]) hc (c_L_period l _ hs5) mS_L_period kM_L_98 ⟨Nat.le_of_ble_eq_true rfl, Nat.le_of_ble_eq_true rfl⟩ ⟨Nat.le_of_ble_eq_true rfl, Nat.le_of_ble_eq_true rfl⟩ rfl rfl (Nat.le_of_ble_eq_true rfl) dL_isLearned_142 (fun r σ' h => ?_)
      obtain ⟨rfl, rfl⟩ := h
      obtain ⟨hs6, hok⟩ := hok
      refine r_irem (pc := 145) hc dL_isLearned_145 hs6 ?_
      refine r_icmp_ne (pc := 146) (tgt := 153) hc dL_isLearned_146 (by decide) (fun c146 => ?_) (fun c146 => ?_)
      · have hok := hok.2 c146
        have hq := o_qn hq c146
        refine r_iconst (pc := 153) (v := 0) hc dL_isLearned_153 rfl ?_
        refine r_istore (pc := 154) (lv' := [(6, _), (3, _), (0, _), (1, _), (2, _), (4, _), (5, _), (7, _), (8, _)]) hc dL_isLearned_154 (by decide) rfl ?_
        refine r_iinc (pc := 156) (q := 7) (v := _ + 1) (lv' := [(7, _), (6, _), (3, _), (0, _), (1, _), (2, _), (4, _), (5, _), (8, _)]) hc dL_isLearned_156 rfl rfl (by decide) rfl ?_
        refine r_goto (pc := 159) (tgt := 67) hc dL_isLearned_159 (by decide) ?_
        exact o_V.sub (hK _ _ _ _ _ _ _ hok hq) [3, 4, 5, 2, 6, 7, 1, 0] rfl
      · have hok := hok.1 c146
        have hq := o_qp hq c146
        refine r_iconst (pc := 149) (v := 1) hc dL_isLearned_149 rfl ?_
        refine r_goto (pc := 150) (tgt := 154) hc dL_isLearned_150 (by decide) ?_
        refine r_istore (pc := 154) (lv' := [(6, _), (3, _), (0, _), (1, _), (2, _), (4, _), (5, _), (7, _), (8, _)]) hc dL_isLearned_154 (by decide) rfl ?_
        refine r_iinc (pc := 156) (q := 7) (v := _ + 1) (lv' := [(7, _), (6, _), (3, _), (0, _), (1, _), (2, _), (4, _), (5, _), (8, _)]) hc dL_isLearned_156 rfl rfl (by decide) rfl ?_
        refine r_goto (pc := 159) (tgt := 67) hc dL_isLearned_159 (by decide) ?_
        exact o_V.sub (hK _ _ _ _ _ _ _ hok hq) [3, 4, 5, 2, 6, 7, 1, 0] rfl
set_option maxHeartbeats 4000000 in
set_option maxRecDepth 100000 in
theorem t_L_isLearned_67 {p : Program} {l : Launch} {e : Env} {s : State} {m : MethodId} {args : Array Value} {below : List Frame} {meth : Method} {c : Code} {G : Gt} {post : Int32 → Sg → Prop}  (hX : 34 < gN G) (hc : o_Cx p s m args meth c G cL_isLearned yL_isLearned.cls 9) (hr : meth.sig.returnType = (some .boolean)) : ∀ (n : Nat) (x1 : Int32) (x2 : Int32) (x3 : Int32) (x5 : Int32) (x6 : Int32) (x7 : Int32) (σ : Sg) (hok : ok_L_isLearned_67  n x1 x2 x3 x5 x6 x7 σ) (hq : ∀ q : Int32 × Sg, q = f_L_isLearned_67  n x1 x2 x3 x5 x6 x7 σ → post q.1 q.2), o_V p l e { frames := 7, cells := 1, slots := 3, locals := 166 } s m args below meth c (MQ below (va_Qi post (fun σ' t => o_W G σ' t.heap) (o_A G)) args s 1 3 (o_A G)) G 1 3 9 σ 67 [(0, .ref (gAd G 0)), (1, .int x1), (2, .int x2), (3, .int x3), (4, .ref (gAd G 34)), (5, .int x5), (6, .int x6), (7, .int x7)] [] := by
  intro n
  induction n with
  | zero =>
    intro x1 x2 x3 x5 x6 x7 σ hok hq
    exact hok.elim
  | succ n ih =>
    intro x1 x2 x3 x5 x6 x7 σ hok hq
    refine r_iload (pc := 67) hc 7 dL_isLearned_67 rfl ?_
    refine r_iconst (pc := 69) (v := 3) hc dL_isLearned_69 rfl ?_
    refine r_icmp_ge (pc := 70) (tgt := 162) hc dL_isLearned_70 (by decide) (fun c70 => ?_) (fun c70 => ?_)
    · have hok := hok.1 c70
      have hq := o_qp hq c70
      exact o_V.sub (t_L_isLearned_162 hX hc hr hok hq) [0, 1, 2, 3, 5, 6] rfl
    · have hok := hok.2 c70
      have hq := o_qn hq c70
      refine r_iload (pc := 73) hc 6 dL_isLearned_73 rfl ?_
      refine r_if_eq (pc := 75) (tgt := 162) hc dL_isLearned_75 (by decide) (fun c75 => ?_) (fun c75 => ?_)
      · have hok := hok.1 c75
        have hq := o_qp hq c75
        exact o_V.sub (t_L_isLearned_162 hX hc hr hok hq) [0, 1, 2, 3, 5, 6] rfl
      · have hok := hok.2 c75
        have hq := o_qn hq c75
        refine r_aload_n (pc := 78) hc 0 dL_isLearned_78 rfl rfl ?_
        refine r_iload (pc := 79) hc 7 dL_isLearned_79 rfl ?_
        refine r_iload_n (pc := 81) hc 2 dL_isLearned_81 rfl rfl ?_
        obtain ⟨hs1, hok⟩ := hok
        refine r_callV_i (pc := 82) (as := [.int _, .int _]) hc (c_X5_correction l _ hs1) kk5 (o_lt hc (by decide)) rfl mV_X5_correction kM_L_25 ⟨Nat.le_of_ble_eq_true rfl, Nat.le_of_ble_eq_true rfl⟩ ⟨Nat.le_of_ble_eq_true rfl, Nat.le_of_ble_eq_true rfl⟩ rfl rfl (Nat.le_of_ble_eq_true rfl) dL_isLearned_82 (fun r σ' h => ?_)
        obtain ⟨rfl, rfl⟩ := h
        refine r_istore (pc := 85) (lv' := [(8, _), (0, _), (1, _), (2, _), (3, _), (4, _), (5, _), (6, _), (7, _)]) hc dL_isLearned_85 (by decide) rfl ?_
        refine r_iload_n (pc := 87) hc 4 dL_isLearned_87 rfl rfl ?_
        refine r_iload (pc := 88) hc 0 dL_isLearned_88 rfl ?_
        refine r_aload (pc := 90) hc 5 dL_isLearned_90 rfl ?_
        refine r_iload (pc := 92) hc 8 dL_isLearned_92 rfl ?_
        obtain ⟨hs2, hok⟩ := hok
        refine r_iald (pc := 94) (k := _) hc hX rfl hs2 rfl dL_isLearned_94 ?_
        refine r_icmp_ne (pc := 95) (tgt := 102) hc dL_isLearned_95 (by decide) (fun c95 => ?_) (fun c95 => ?_)
        · have hok := hok.2 c95
          have hq := o_qn hq c95
          refine r_iconst (pc := 102) (v := 1) hc dL_isLearned_102 rfl ?_
          exact o_V.sub (t_L_isLearned_103 hX hc hr (K := f_L_isLearned_67 n) (okK := ok_L_isLearned_67 n) (fun z0 z1 z2 z3 z4 z5 zs h1 h2 => ih z0 z1 z2 z3 z4 z5 zs h1 h2) hok hq) [1, 2, 3, 5, 6, 8, 0] rfl
        · have hok := hok.1 c95
          have hq := o_qp hq c95
          refine r_iconst (pc := 98) (v := 0) hc dL_isLearned_98 rfl ?_
          refine r_goto (pc := 99) (tgt := 103) hc dL_isLearned_99 (by decide) ?_
          exact o_V.sub (t_L_isLearned_103 hX hc hr (K := f_L_isLearned_67 n) (okK := ok_L_isLearned_67 n) (fun z0 z1 z2 z3 z4 z5 zs h1 h2 => ih z0 z1 z2 z3 z4 z5 zs h1 h2) hok hq) [1, 2, 3, 5, 6, 8, 0] rfl
set_option maxHeartbeats 4000000 in
set_option maxRecDepth 100000 in
theorem t_L_isLearned_22 {p : Program} {l : Launch} {e : Env} {s : State} {m : MethodId} {args : Array Value} {below : List Frame} {meth : Method} {c : Code} {G : Gt} {post : Int32 → Sg → Prop}  (hX : 34 < gN G) (hc : o_Cx p s m args meth c G cL_isLearned yL_isLearned.cls 9) (hr : meth.sig.returnType = (some .boolean)) : ∀ (n : Nat) (x1 : Int32) (x2 : Int32) (x3 : Int32) (x5 : Int32) (σ : Sg) (hok : ok_L_isLearned_22  n x1 x2 x3 x5 σ) (hq : ∀ q : Int32 × Sg, q = f_L_isLearned_22  n x1 x2 x3 x5 σ → post q.1 q.2), o_V p l e { frames := 7, cells := 1, slots := 3, locals := 166 } s m args below meth c (MQ below (va_Qi post (fun σ' t => o_W G σ' t.heap) (o_A G)) args s 1 3 (o_A G)) G 1 3 9 σ 22 [(0, .ref (gAd G 0)), (1, .int x1), (2, .int x2), (3, .int x3), (4, .ref (gAd G 34)), (5, .int x5)] [] := by
  intro n
  induction n with
  | zero =>
    intro x1 x2 x3 x5 σ hok hq
    exact hok.elim
  | succ n ih =>
    intro x1 x2 x3 x5 σ hok hq
    refine r_iload (pc := 22) hc 5 dL_isLearned_22 rfl ?_
    refine r_iconst (pc := 24) (v := 3) hc dL_isLearned_24 rfl ?_
    refine r_icmp_ge (pc := 25) (tgt := 46) hc dL_isLearned_25 (by decide) (fun c25 => ?_) (fun c25 => ?_)
    · have hok := hok.1 c25
      have hq := o_qp hq c25
      refine r_aload_n (pc := 46) hc 0 dL_isLearned_46 rfl rfl ?_
      obtain ⟨hs1, hok⟩ := hok
      refine r_callV_i (pc := 47) (as := []) hc (c_X5_learn l _ hs1) kk5 (o_lt hc (by decide)) rfl mV_X5_learn kM_L_113 ⟨Nat.le_of_ble_eq_true rfl, Nat.le_of_ble_eq_true rfl⟩ ⟨Nat.le_of_ble_eq_true rfl, Nat.le_of_ble_eq_true rfl⟩ rfl rfl (Nat.le_of_ble_eq_true rfl) dL_isLearned_47 (fun r σ' h => ?_)
      obtain ⟨rfl, rfl⟩ := h
      refine r_istore (pc := 50) (lv' := [(5, _), (0, _), (1, _), (2, _), (3, _), (4, _)]) hc dL_isLearned_50 (by decide) rfl ?_
      refine r_iload (pc := 52) hc 0 dL_isLearned_52 rfl ?_
      refine r_if_lt (pc := 54) (tgt := 61) hc dL_isLearned_54 (by decide) (fun c54 => ?_) (fun c54 => ?_)
      · have hok := hok.1 c54
        have hq := o_qp hq c54
        refine r_iconst (pc := 61) (v := 0) hc dL_isLearned_61 rfl ?_
        refine r_istore (pc := 62) (lv' := [(6, _), (5, _), (0, _), (1, _), (2, _), (3, _), (4, _)]) hc dL_isLearned_62 (by decide) rfl ?_
        refine r_iconst (pc := 64) (v := 0) hc dL_isLearned_64 rfl ?_
        refine r_istore (pc := 65) (lv' := [(7, _), (6, _), (5, _), (0, _), (1, _), (2, _), (3, _), (4, _)]) hc dL_isLearned_65 (by decide) rfl ?_
        exact o_V.sub (t_L_isLearned_67 hX hc hr oF _ _ _ _ _ _ _ hok hq) [3, 4, 5, 6, 7, 2, 1, 0] rfl
      · have hok := hok.2 c54
        have hq := o_qn hq c54
        refine r_iconst (pc := 57) (v := 1) hc dL_isLearned_57 rfl ?_
        refine r_goto (pc := 58) (tgt := 62) hc dL_isLearned_58 (by decide) ?_
        refine r_istore (pc := 62) (lv' := [(6, _), (5, _), (0, _), (1, _), (2, _), (3, _), (4, _)]) hc dL_isLearned_62 (by decide) rfl ?_
        refine r_iconst (pc := 64) (v := 0) hc dL_isLearned_64 rfl ?_
        refine r_istore (pc := 65) (lv' := [(7, _), (6, _), (5, _), (0, _), (1, _), (2, _), (3, _), (4, _)]) hc dL_isLearned_65 (by decide) rfl ?_
        exact o_V.sub (t_L_isLearned_67 hX hc hr oF _ _ _ _ _ _ _ hok hq) [3, 4, 5, 6, 7, 2, 1, 0] rfl
    · have hok := hok.2 c25
      have hq := o_qn hq c25
      refine r_aload (pc := 28) hc 4 dL_isLearned_28 rfl ?_
      refine r_iload (pc := 30) hc 5 dL_isLearned_30 rfl ?_
      refine r_aload_n (pc := 32) hc 0 dL_isLearned_32 rfl rfl ?_
      refine r_iload (pc := 33) hc 5 dL_isLearned_33 rfl ?_
      refine r_iload_n (pc := 35) hc 2 dL_isLearned_35 rfl rfl ?_
      obtain ⟨hs3, hok⟩ := hok
      refine r_callV_i (pc := 36) (as := [.int _, .int _]) hc (c_X5_correction l _ hs3) kk5 (o_lt hc (by decide)) rfl mV_X5_correction kM_L_25 ⟨Nat.le_of_ble_eq_true rfl, Nat.le_of_ble_eq_true rfl⟩ ⟨Nat.le_of_ble_eq_true rfl, Nat.le_of_ble_eq_true rfl⟩ rfl rfl (Nat.le_of_ble_eq_true rfl) dL_isLearned_36 (fun r σ' h => ?_)
      obtain ⟨rfl, rfl⟩ := h
      obtain ⟨hs4, hok⟩ := hok
      refine r_iast (pc := 39) (k := _) hc hX rfl hs4 rfl dL_isLearned_39 ?_
      refine r_iinc (pc := 40) (q := 5) (v := _ + 1) (lv' := [(5, _), (0, _), (1, _), (2, _), (3, _), (4, _)]) hc dL_isLearned_40 rfl rfl (by decide) rfl ?_
      refine r_goto (pc := 43) (tgt := 22) hc dL_isLearned_43 (by decide) ?_
      exact o_V.sub (ih _ _ _ _ _ hok hq) [1, 2, 3, 4, 5, 0] rfl
set_option maxHeartbeats 4000000 in
set_option maxRecDepth 100000 in
theorem c_L_isLearned (l : Launch) (G : Gt)  (hG : gN G = 34) {σ : Sg} (hok : ok_L_isLearned  σ) : o_Cim l G yL_isLearned cL_isLearned 9 (some .boolean) 7 166 1 3 [.ref (gAd G 0)] σ (fun r σ' => r = (f_L_isLearned  σ).1 ∧ σ' = (f_L_isLearned  σ).2) := by
  refine o_Cim.of (by decide +kernel) (Nat.le_of_ble_eq_true rfl) ?_
  intro p e s m args below meth c hc hr
  have hq : ∀ q : Int32 × Sg, q = f_L_isLearned  σ → (fun r σ' => r = (f_L_isLearned  σ).1 ∧ σ' = (f_L_isLearned  σ).2) q.1 q.2 := fun q h => ⟨congrArg Prod.fst h, congrArg Prod.snd h⟩
  refine r_aload_n (pc := 0) hc 0 dL_isLearned_0 rfl rfl ?_
  refine r_iconst (pc := 1) (v := 1) hc dL_isLearned_1 rfl ?_
  obtain ⟨hs1, hok⟩ := hok
  refine r_callV_i (pc := 2) (as := [.int _]) hc (c_X5_count l _ hs1) kk5 (o_lt hc (by decide)) rfl mV_X5_count kM_L_19 ⟨Nat.le_of_ble_eq_true rfl, Nat.le_of_ble_eq_true rfl⟩ ⟨Nat.le_of_ble_eq_true rfl, Nat.le_of_ble_eq_true rfl⟩ rfl rfl (Nat.le_of_ble_eq_true rfl) dL_isLearned_2 (fun r σ' h => ?_)
  obtain ⟨rfl, rfl⟩ := h
  refine r_istore_n (pc := 5) (lv' := [(1, _), (0, _)]) hc dL_isLearned_5 rfl (by decide) rfl ?_
  refine r_iload_n (pc := 6) hc 0 dL_isLearned_6 rfl rfl ?_
  refine r_sipush (pc := 7) (v := 510) hc dL_isLearned_7 (by decide) ?_
  refine r_idiv (pc := 10) hc dL_isLearned_10 (by decide) ?_
  refine r_istore_n (pc := 11) (lv' := [(2, _), (1, _), (0, _)]) hc dL_isLearned_11 rfl (by decide) rfl ?_
  refine r_iconst (pc := 12) (v := 0) hc dL_isLearned_12 rfl ?_
  refine r_istore_n (pc := 13) (lv' := [(3, _), (2, _), (1, _), (0, _)]) hc dL_isLearned_13 rfl (by decide) rfl ?_
  refine r_iconst (pc := 14) (v := 3) hc dL_isLearned_14 rfl ?_
  refine r_newa (pc := 15) hc hG dL_isLearned_15 ⟨Nat.le_of_ble_eq_true rfl, Nat.le_of_ble_eq_true rfl⟩ (fun G1 hc1 hX hA => ?_)
  rw [← hA 0 (by decide)]
  clear hc hG
  have hc := hc1
  clear hA hc1
  refine r_astore (pc := 17) (lv' := [(4, _), (3, _), (2, _), (1, _), (0, _)]) hc dL_isLearned_17 (by decide) rfl ?_
  refine r_iconst (pc := 19) (v := 0) hc dL_isLearned_19 rfl ?_
  refine r_istore (pc := 20) (lv' := [(5, _), (4, _), (3, _), (2, _), (1, _), (0, _)]) hc dL_isLearned_20 (by decide) rfl ?_
  exact o_V.sub (t_L_isLearned_22 hX hc hr oF _ _ _ _ _ hok hq) [5, 4, 3, 2, 1, 0] rfl
