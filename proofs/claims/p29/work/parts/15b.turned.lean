set_option linter.all false
noncomputable def f_L_isTurned_212   (σ : Sg) : Int32 × Sg :=
  (1, σ)
def ok_L_isTurned_212   (σ : Sg) : Prop :=
  True
noncomputable def f_L_isTurned_166  (x1 : Int32) (x2 : Int32) (x3 : Int32) (x4 : Int32) (y0 : Int32) (σ : Sg) : Int32 × Sg :=
  o_ite (y0 = 0) (
    (y0, σ)) (
    o_ite ((f_L_low (x1 >>> ((7 : Int32) &&& 31)) 2 σ) = 0) (
      let q5 := f_X5_turn (-x2) σ
      o_ite (q5.1 = x3) (
        o_ite ((f_X5_count 3 q5.2) = 0) (
          f_L_isTurned_212 q5.2) (
          o_ite ((f_X5_count 2 q5.2) = x4) (
            f_L_isTurned_212 q5.2) (
            (0, q5.2)))) (
        (0, q5.2))) (
      (y0, σ)))
def ok_L_isTurned_166  (x1 : Int32) (x2 : Int32) (x3 : Int32) (x4 : Int32) (y0 : Int32) (σ : Sg) : Prop :=
  ((y0 = 0) →
    (narrow .boolean (.int y0) = .int y0) ∧ (True)) ∧ (¬ (y0 = 0) →
    (ok_L_low (x1 >>> ((7 : Int32) &&& 31)) 2 σ) ∧ ((((f_L_low (x1 >>> ((7 : Int32) &&& 31)) 2 σ) = 0) →
      (ok_X5_turn (-x2) σ) ∧ (let q5 := f_X5_turn (-x2) σ
      ((q5.1 = x3) →
        (ok_X5_count 3 q5.2) ∧ ((((f_X5_count 3 q5.2) = 0) →
          ok_L_isTurned_212 q5.2) ∧ (¬ ((f_X5_count 3 q5.2) = 0) →
          (ok_X5_count 2 q5.2) ∧ ((((f_X5_count 2 q5.2) = x4) →
            ok_L_isTurned_212 q5.2) ∧ (¬ ((f_X5_count 2 q5.2) = x4) →
            True))))) ∧ (¬ (q5.1 = x3) →
        True))) ∧ (¬ ((f_L_low (x1 >>> ((7 : Int32) &&& 31)) 2 σ) = 0) →
      (narrow .boolean (.int y0) = .int y0) ∧ (True))))
noncomputable def f_L_isTurned_165  (x1 : Int32) (x2 : Int32) (x3 : Int32) (x4 : Int32) (σ : Sg) : Int32 × Sg :=
  f_L_isTurned_166 x1 x2 x3 x4 0 σ
def ok_L_isTurned_165  (x1 : Int32) (x2 : Int32) (x3 : Int32) (x4 : Int32) (σ : Sg) : Prop :=
  ok_L_isTurned_166 x1 x2 x3 x4 0 σ
noncomputable def f_L_isTurned_161  (x1 : Int32) (x2 : Int32) (x3 : Int32) (x4 : Int32) (σ : Sg) : Int32 × Sg :=
  f_L_isTurned_166 x1 x2 x3 x4 1 σ
def ok_L_isTurned_161  (x1 : Int32) (x2 : Int32) (x3 : Int32) (x4 : Int32) (σ : Sg) : Prop :=
  ok_L_isTurned_166 x1 x2 x3 x4 1 σ
noncomputable def f_L_isTurned_124  (x1 : Int32) (x2 : Int32) (x3 : Int32) (x4 : Int32) (y0 : Int32) (y1 : Int32) (y2 : Int32) (σ : Sg) : Int32 × Sg :=
  o_ite (y2 = (f_L_least y1 y0 σ)) (
    f_L_isTurned_161 x1 x2 x3 x4 σ) (
    f_L_isTurned_165 x1 x2 x3 x4 σ)
def ok_L_isTurned_124  (x1 : Int32) (x2 : Int32) (x3 : Int32) (x4 : Int32) (y0 : Int32) (y1 : Int32) (y2 : Int32) (σ : Sg) : Prop :=
  (ok_L_least y1 y0 σ) ∧ (((y2 = (f_L_least y1 y0 σ)) →
    ok_L_isTurned_161 x1 x2 x3 x4 σ) ∧ (¬ (y2 = (f_L_least y1 y0 σ)) →
    ok_L_isTurned_165 x1 x2 x3 x4 σ))
noncomputable def f_L_isTurned (p1 : Int32) (σ : Sg) : Int32 × Sg :=
  let q6 := f_X5_turn ((f_L_low p1 19999 σ) - 9999) σ
  o_ite (0 ≤ q6.1) (
    o_ite (q6.1 = ((f_X5_count 0 σ) + ((f_L_low p1 19999 σ) - 9999))) (
      o_ite ((f_X5_count 3 q6.2) = 0) (
        o_ite (0 ≤ ((q6.1 / 1020) - ((f_X5_count 0 σ) / 1020))) (
          f_L_isTurned_124 p1 ((f_L_low p1 19999 σ) - 9999) (f_X5_count 0 σ) (f_X5_count 2 σ) ((q6.1 / 1020) - ((f_X5_count 0 σ) / 1020)) (f_X5_count 4 σ) ((f_X5_count 4 σ) - (f_X5_count 4 q6.2)) q6.2) (
          f_L_isTurned_124 p1 ((f_L_low p1 19999 σ) - 9999) (f_X5_count 0 σ) (f_X5_count 2 σ) (-((q6.1 / 1020) - ((f_X5_count 0 σ) / 1020))) (f_X5_count 4 σ) ((f_X5_count 4 σ) - (f_X5_count 4 q6.2)) q6.2)) (
        o_ite ((f_X5_count 4 q6.2) = (f_X5_count 4 σ)) (
          let r11 := f_L_rest ((f_X5_count 2 σ) + ((q6.1 / 1020) - ((f_X5_count 0 σ) / 1020))) 64 q6.2
          o_ite ((f_X5_count 2 q6.2) = r11) (
            f_L_isTurned_161 p1 ((f_L_low p1 19999 σ) - 9999) (f_X5_count 0 σ) (f_X5_count 2 σ) q6.2) (
            f_L_isTurned_165 p1 ((f_L_low p1 19999 σ) - 9999) (f_X5_count 0 σ) (f_X5_count 2 σ) q6.2)) (
          f_L_isTurned_165 p1 ((f_L_low p1 19999 σ) - 9999) (f_X5_count 0 σ) (f_X5_count 2 σ) q6.2))) (
      f_L_isTurned_165 p1 ((f_L_low p1 19999 σ) - 9999) (f_X5_count 0 σ) (f_X5_count 2 σ) q6.2)) (
    o_ite (q6.1 = (-2)) (
      o_ite (((f_X5_count 0 σ) + ((f_L_low p1 19999 σ) - 9999)) < 0) (
        (1, q6.2)) (
        o_ite (((f_X5_count 0 σ) + ((f_L_low p1 19999 σ) - 9999)) ≤ 65279) (
          (0, q6.2)) (
          (1, q6.2)))) (
      (0, q6.2)))
def ok_L_isTurned (p1 : Int32) (σ : Sg) : Prop :=
  (ok_L_low p1 19999 σ) ∧ ((ok_X5_count 0 σ) ∧ ((ok_X5_count 2 σ) ∧ ((ok_X5_count 4 σ) ∧ ((ok_X5_turn ((f_L_low p1 19999 σ) - 9999) σ) ∧ (let q6 := f_X5_turn ((f_L_low p1 19999 σ) - 9999) σ
  ((0 ≤ q6.1) →
    ((q6.1 = ((f_X5_count 0 σ) + ((f_L_low p1 19999 σ) - 9999))) →
      (ok_X5_count 3 q6.2) ∧ ((((f_X5_count 3 q6.2) = 0) →
        (ok_X5_count 4 q6.2) ∧ (((0 ≤ ((q6.1 / 1020) - ((f_X5_count 0 σ) / 1020))) →
          ok_L_isTurned_124 p1 ((f_L_low p1 19999 σ) - 9999) (f_X5_count 0 σ) (f_X5_count 2 σ) ((q6.1 / 1020) - ((f_X5_count 0 σ) / 1020)) (f_X5_count 4 σ) ((f_X5_count 4 σ) - (f_X5_count 4 q6.2)) q6.2) ∧ (¬ (0 ≤ ((q6.1 / 1020) - ((f_X5_count 0 σ) / 1020))) →
          ok_L_isTurned_124 p1 ((f_L_low p1 19999 σ) - 9999) (f_X5_count 0 σ) (f_X5_count 2 σ) (-((q6.1 / 1020) - ((f_X5_count 0 σ) / 1020))) (f_X5_count 4 σ) ((f_X5_count 4 σ) - (f_X5_count 4 q6.2)) q6.2))) ∧ (¬ ((f_X5_count 3 q6.2) = 0) →
        (ok_X5_count 4 q6.2) ∧ ((((f_X5_count 4 q6.2) = (f_X5_count 4 σ)) →
          (ok_X5_count 2 q6.2) ∧ ((ok_L_rest ((f_X5_count 2 σ) + ((q6.1 / 1020) - ((f_X5_count 0 σ) / 1020))) 64 q6.2) ∧ (let r11 := f_L_rest ((f_X5_count 2 σ) + ((q6.1 / 1020) - ((f_X5_count 0 σ) / 1020))) 64 q6.2
          (((f_X5_count 2 q6.2) = r11) →
            ok_L_isTurned_161 p1 ((f_L_low p1 19999 σ) - 9999) (f_X5_count 0 σ) (f_X5_count 2 σ) q6.2) ∧ (¬ ((f_X5_count 2 q6.2) = r11) →
            ok_L_isTurned_165 p1 ((f_L_low p1 19999 σ) - 9999) (f_X5_count 0 σ) (f_X5_count 2 σ) q6.2)))) ∧ (¬ ((f_X5_count 4 q6.2) = (f_X5_count 4 σ)) →
          ok_L_isTurned_165 p1 ((f_L_low p1 19999 σ) - 9999) (f_X5_count 0 σ) (f_X5_count 2 σ) q6.2))))) ∧ (¬ (q6.1 = ((f_X5_count 0 σ) + ((f_L_low p1 19999 σ) - 9999))) →
      ok_L_isTurned_165 p1 ((f_L_low p1 19999 σ) - 9999) (f_X5_count 0 σ) (f_X5_count 2 σ) q6.2)) ∧ (¬ (0 ≤ q6.1) →
    ((q6.1 = (-2)) →
      ((((f_X5_count 0 σ) + ((f_L_low p1 19999 σ) - 9999)) < 0) →
        True) ∧ (¬ (((f_X5_count 0 σ) + ((f_L_low p1 19999 σ) - 9999)) < 0) →
        ((((f_X5_count 0 σ) + ((f_L_low p1 19999 σ) - 9999)) ≤ 65279) →
          True) ∧ (¬ (((f_X5_count 0 σ) + ((f_L_low p1 19999 σ) - 9999)) ≤ 65279) →
          True))) ∧ (¬ (q6.1 = (-2)) →
      True)))))))
set_option maxHeartbeats 4000000 in
set_option maxRecDepth 100000 in
theorem t_L_isTurned_212 {p : Program} {l : Launch} {e : Env} {s : State} {m : MethodId} {args : Array Value} {below : List Frame} {meth : Method} {c : Code} {G : Gt} {post : Int32 → Sg → Prop}   (hc : o_Cx p s m args meth c G cL_isTurned yL_isTurned.cls 9) (hr : meth.sig.returnType = (some .boolean))  {σ : Sg} (hok : ok_L_isTurned_212   σ) (hq : ∀ q : Int32 × Sg, q = f_L_isTurned_212   σ → post q.1 q.2) : o_V p l e { frames := 4, cells := 0, slots := 0, locals := 91 } s m args below meth c (MQ below (va_Qi post (fun σ' t => o_W G σ' t.heap) (o_A G)) args s 0 0 (o_A G)) G 0 0 9 σ 212 [] [] := by
  refine r_iconst (pc := 212) (v := 1) hc dL_isTurned_212 rfl ?_
  refine r_goto (pc := 213) (tgt := 217) hc dL_isTurned_213 (by decide) ?_
  refine r_istore (pc := 217) (lv' := [(8, _)]) hc dL_isTurned_217 (by decide) rfl ?_
  refine r_iload (pc := 219) hc 0 dL_isTurned_219 rfl ?_
  exact r_iret hc hr rfl dL_isTurned_221 (hq (_, _) rfl)
set_option maxHeartbeats 4000000 in
set_option maxRecDepth 100000 in
theorem t_L_isTurned_166 {p : Program} {l : Launch} {e : Env} {s : State} {m : MethodId} {args : Array Value} {below : List Frame} {meth : Method} {c : Code} {G : Gt} {post : Int32 → Sg → Prop}   (hc : o_Cx p s m args meth c G cL_isTurned yL_isTurned.cls 9) (hr : meth.sig.returnType = (some .boolean)) {x1 : Int32} {x2 : Int32} {x3 : Int32} {x4 : Int32} {y0 : Int32} {σ : Sg} (hok : ok_L_isTurned_166  x1 x2 x3 x4 y0 σ) (hq : ∀ q : Int32 × Sg, q = f_L_isTurned_166  x1 x2 x3 x4 y0 σ → post q.1 q.2) : o_V p l e { frames := 4, cells := 0, slots := 0, locals := 91 } s m args below meth c (MQ below (va_Qi post (fun σ' t => o_W G σ' t.heap) (o_A G)) args s 0 0 (o_A G)) G 0 0 9 σ 166 [(0, .ref (gAd G 0)), (1, .int x1), (2, .int x2), (3, .int x3), (4, .int x4)] [.int y0] := by
  refine r_istore (pc := 166) (lv' := [(8, _), (0, _), (1, _), (2, _), (3, _), (4, _)]) hc dL_isTurned_166 (by decide) rfl ?_
  refine r_iload (pc := 168) hc 0 dL_isTurned_168 rfl ?_
  refine r_if_eq (pc := 170) (tgt := 219) hc dL_isTurned_170 (by decide) (fun c170 => ?_) (fun c170 => ?_)
  · have hok := hok.1 c170
    have hq := o_qp hq c170
    refine r_iload (pc := 219) hc 0 dL_isTurned_219 rfl ?_
    obtain ⟨hs1, hok⟩ := hok
    exact r_iret hc hr hs1 dL_isTurned_221 (hq (_, _) rfl)
  · have hok := hok.2 c170
    have hq := o_qn hq c170
    refine r_iload_n (pc := 173) hc 2 dL_isTurned_173 rfl rfl ?_
    refine r_bipush (pc := 174) (v := 7) hc dL_isTurned_174 (by decide) ?_
    refine r_ishr (pc := 176) hc dL_isTurned_176 ?_
    refine r_iconst (pc := 177) (v := 2) hc dL_isTurned_177 rfl ?_
    obtain ⟨hs2, hok⟩ := hok
    refine r_callS_i (pc := 178) (as := [.int _, .int _]) hc (c_L_low l _ hs2) mS_L_low kM_L_106 ⟨Nat.le_of_ble_eq_true rfl, Nat.le_of_ble_eq_true rfl⟩ ⟨Nat.le_of_ble_eq_true rfl, Nat.le_of_ble_eq_true rfl⟩ rfl rfl (Nat.le_of_ble_eq_true rfl) dL_isTurned_178 (fun r σ' h => ?_)
    obtain ⟨rfl, rfl⟩ := h
    refine r_if_ne (pc := 181) (tgt := 219) hc dL_isTurned_181 (by decide) (fun c181 => ?_) (fun c181 => ?_)
    · have hok := hok.2 c181
      have hq := o_qn hq c181
      refine r_iload (pc := 219) hc 0 dL_isTurned_219 rfl ?_
      obtain ⟨hs3, hok⟩ := hok
      exact r_iret hc hr hs3 dL_isTurned_221 (hq (_, _) rfl)
    · have hok := hok.1 c181
      have hq := o_qp hq c181
      refine r_aload_n (pc := 184) hc 1 dL_isTurned_184 rfl rfl ?_
      refine r_iload_n (pc := 185) hc 3 dL_isTurned_185 rfl rfl ?_
      refine r_ineg (pc := 186) hc dL_isTurned_186 ?_
      obtain ⟨hs4, hok⟩ := hok
      refine r_callV_i (pc := 187) (as := [.int _]) hc (c_X5_turn l _ hs4) kk5 (o_lt hc (by decide)) rfl mV_X5_turn kM_L_41 ⟨Nat.le_of_ble_eq_true rfl, Nat.le_of_ble_eq_true rfl⟩ ⟨Nat.le_of_ble_eq_true rfl, Nat.le_of_ble_eq_true rfl⟩ rfl rfl (Nat.le_of_ble_eq_true rfl) dL_isTurned_187 (fun r σ' h => ?_)
      obtain ⟨rfl, rfl⟩ := h
      refine r_iload_n (pc := 190) hc 4 dL_isTurned_190 rfl rfl ?_
      refine r_icmp_ne (pc := 191) (tgt := 216) hc dL_isTurned_191 (by decide) (fun c191 => ?_) (fun c191 => ?_)
      · have hok := hok.2 c191
        have hq := o_qn hq c191
        refine r_iconst (pc := 216) (v := 0) hc dL_isTurned_216 rfl ?_
        refine r_istore (pc := 217) (lv' := [(8, _), (0, _), (1, _), (2, _), (3, _), (4, _)]) hc dL_isTurned_217 (by decide) rfl ?_
        refine r_iload (pc := 219) hc 0 dL_isTurned_219 rfl ?_
        exact r_iret hc hr rfl dL_isTurned_221 (hq (_, _) rfl)
      · have hok := hok.1 c191
        have hq := o_qp hq c191
        refine r_aload_n (pc := 194) hc 1 dL_isTurned_194 rfl rfl ?_
        refine r_iconst (pc := 195) (v := 3) hc dL_isTurned_195 rfl ?_
        obtain ⟨hs6, hok⟩ := hok
        refine r_callV_i (pc := 196) (as := [.int _]) hc (c_X5_count l _ hs6) kk5 (o_lt hc (by decide)) rfl mV_X5_count kM_L_19 ⟨Nat.le_of_ble_eq_true rfl, Nat.le_of_ble_eq_true rfl⟩ ⟨Nat.le_of_ble_eq_true rfl, Nat.le_of_ble_eq_true rfl⟩ rfl rfl (Nat.le_of_ble_eq_true rfl) dL_isTurned_196 (fun r σ' h => ?_)
        obtain ⟨rfl, rfl⟩ := h
        refine r_if_eq (pc := 199) (tgt := 212) hc dL_isTurned_199 (by decide) (fun c199 => ?_) (fun c199 => ?_)
        · have hok := hok.1 c199
          have hq := o_qp hq c199
          exact o_V.sub (t_L_isTurned_212  hc hr hok hq) [] rfl
        · have hok := hok.2 c199
          have hq := o_qn hq c199
          refine r_aload_n (pc := 202) hc 1 dL_isTurned_202 rfl rfl ?_
          refine r_iconst (pc := 203) (v := 2) hc dL_isTurned_203 rfl ?_
          obtain ⟨hs7, hok⟩ := hok
          refine r_callV_i (pc := 204) (as := [.int _]) hc (c_X5_count l _ hs7) kk5 (o_lt hc (by decide)) rfl mV_X5_count kM_L_19 ⟨Nat.le_of_ble_eq_true rfl, Nat.le_of_ble_eq_true rfl⟩ ⟨Nat.le_of_ble_eq_true rfl, Nat.le_of_ble_eq_true rfl⟩ rfl rfl (Nat.le_of_ble_eq_true rfl) dL_isTurned_204 (fun r σ' h => ?_)
          obtain ⟨rfl, rfl⟩ := h
          refine r_iload (pc := 207) hc 5 dL_isTurned_207 rfl ?_
          refine r_icmp_ne (pc := 209) (tgt := 216) hc dL_isTurned_209 (by decide) (fun c209 => ?_) (fun c209 => ?_)
          · have hok := hok.2 c209
            have hq := o_qn hq c209
            refine r_iconst (pc := 216) (v := 0) hc dL_isTurned_216 rfl ?_
            refine r_istore (pc := 217) (lv' := [(8, _), (0, _), (1, _), (2, _), (3, _), (4, _)]) hc dL_isTurned_217 (by decide) rfl ?_
            refine r_iload (pc := 219) hc 0 dL_isTurned_219 rfl ?_
            exact r_iret hc hr rfl dL_isTurned_221 (hq (_, _) rfl)
          · have hok := hok.1 c209
            have hq := o_qp hq c209
            exact o_V.sub (t_L_isTurned_212  hc hr hok hq) [] rfl
set_option maxHeartbeats 4000000 in
set_option maxRecDepth 100000 in
theorem t_L_isTurned_165 {p : Program} {l : Launch} {e : Env} {s : State} {m : MethodId} {args : Array Value} {below : List Frame} {meth : Method} {c : Code} {G : Gt} {post : Int32 → Sg → Prop}   (hc : o_Cx p s m args meth c G cL_isTurned yL_isTurned.cls 9) (hr : meth.sig.returnType = (some .boolean)) {x1 : Int32} {x2 : Int32} {x3 : Int32} {x4 : Int32} {σ : Sg} (hok : ok_L_isTurned_165  x1 x2 x3 x4 σ) (hq : ∀ q : Int32 × Sg, q = f_L_isTurned_165  x1 x2 x3 x4 σ → post q.1 q.2) : o_V p l e { frames := 4, cells := 0, slots := 0, locals := 91 } s m args below meth c (MQ below (va_Qi post (fun σ' t => o_W G σ' t.heap) (o_A G)) args s 0 0 (o_A G)) G 0 0 9 σ 165 [(0, .ref (gAd G 0)), (1, .int x1), (2, .int x2), (3, .int x3), (4, .int x4)] [] := by
  refine r_iconst (pc := 165) (v := 0) hc dL_isTurned_165 rfl ?_
  exact o_V.sub (t_L_isTurned_166  hc hr hok hq) [0, 1, 2, 3, 4] rfl
set_option maxHeartbeats 4000000 in
set_option maxRecDepth 100000 in
theorem t_L_isTurned_161 {p : Program} {l : Launch} {e : Env} {s : State} {m : MethodId} {args : Array Value} {below : List Frame} {meth : Method} {c : Code} {G : Gt} {post : Int32 → Sg → Prop}   (hc : o_Cx p s m args meth c G cL_isTurned yL_isTurned.cls 9) (hr : meth.sig.returnType = (some .boolean)) {x1 : Int32} {x2 : Int32} {x3 : Int32} {x4 : Int32} {σ : Sg} (hok : ok_L_isTurned_161  x1 x2 x3 x4 σ) (hq : ∀ q : Int32 × Sg, q = f_L_isTurned_161  x1 x2 x3 x4 σ → post q.1 q.2) : o_V p l e { frames := 4, cells := 0, slots := 0, locals := 91 } s m args below meth c (MQ below (va_Qi post (fun σ' t => o_W G σ' t.heap) (o_A G)) args s 0 0 (o_A G)) G 0 0 9 σ 161 [(0, .ref (gAd G 0)), (1, .int x1), (2, .int x2), (3, .int x3), (4, .int x4)] [] := by
  refine r_iconst (pc := 161) (v := 1) hc dL_isTurned_161 rfl ?_
  refine r_goto (pc := 162) (tgt := 166) hc dL_isTurned_162 (by decide) ?_
  exact o_V.sub (t_L_isTurned_166  hc hr hok hq) [0, 1, 2, 3, 4] rfl
set_option maxHeartbeats 4000000 in
set_option maxRecDepth 100000 in
theorem t_L_isTurned_124 {p : Program} {l : Launch} {e : Env} {s : State} {m : MethodId} {args : Array Value} {below : List Frame} {meth : Method} {c : Code} {G : Gt} {post : Int32 → Sg → Prop}   (hc : o_Cx p s m args meth c G cL_isTurned yL_isTurned.cls 9) (hr : meth.sig.returnType = (some .boolean)) {x1 : Int32} {x2 : Int32} {x3 : Int32} {x4 : Int32} {y0 : Int32} {y1 : Int32} {y2 : Int32} {σ : Sg} (hok : ok_L_isTurned_124  x1 x2 x3 x4 y0 y1 y2 σ) (hq : ∀ q : Int32 × Sg, q = f_L_isTurned_124  x1 x2 x3 x4 y0 y1 y2 σ → post q.1 q.2) : o_V p l e { frames := 4, cells := 0, slots := 0, locals := 91 } s m args below meth c (MQ below (va_Qi post (fun σ' t => o_W G σ' t.heap) (o_A G)) args s 0 0 (o_A G)) G 0 0 9 σ 124 [(0, .ref (gAd G 0)), (1, .int x1), (2, .int x2), (3, .int x3), (4, .int x4)] [.int y0, .int y1, .int y2] := by
  obtain ⟨hs1, hok⟩ := hok
  refine r_callS_i (pc := 124) (as := [.int _, .int _]) hc (c_L_least l _ hs1) mS_L_least kM_L_110 ⟨Nat.le_of_ble_eq_true rfl, Nat.le_of_ble_eq_true rfl⟩ ⟨Nat.le_of_ble_eq_true rfl, Nat.le_of_ble_eq_true rfl⟩ rfl rfl (Nat.le_of_ble_eq_true rfl) dL_isTurned_124 (fun r σ' h => ?_)
  obtain ⟨rfl, rfl⟩ := h
  refine r_icmp_ne (pc := 127) (tgt := 165) hc dL_isTurned_127 (by decide) (fun c127 => ?_) (fun c127 => ?_)
  · have hok := hok.2 c127
    have hq := o_qn hq c127
    exact o_V.sub (t_L_isTurned_165  hc hr hok hq) [0, 1, 2, 3, 4] rfl
  · have hok := hok.1 c127
    have hq := o_qp hq c127
    refine r_goto (pc := 130) (tgt := 161) hc dL_isTurned_130 (by decide) ?_
    exact o_V.sub (t_L_isTurned_161  hc hr hok hq) [0, 1, 2, 3, 4] rfl
set_option maxHeartbeats 4000000 in
set_option maxRecDepth 100000 in
theorem c_L_isTurned (l : Launch) (G : Gt) {p1 : Int32}  {σ : Sg} (hok : ok_L_isTurned p1 σ) : o_Ci l G yL_isTurned cL_isTurned 9 (some .boolean) 4 91 [.ref (gAd G 0), .int p1] σ (fun r σ' => r = (f_L_isTurned p1 σ).1 ∧ σ' = (f_L_isTurned p1 σ).2) := by
  refine o_Ci.of (by decide +kernel) (Nat.le_of_ble_eq_true rfl) ?_
  intro p e s m args below meth c hc hr
  have hq : ∀ q : Int32 × Sg, q = f_L_isTurned p1 σ → (fun r σ' => r = (f_L_isTurned p1 σ).1 ∧ σ' = (f_L_isTurned p1 σ).2) q.1 q.2 := fun q h => ⟨congrArg Prod.fst h, congrArg Prod.snd h⟩
  refine r_iload_n (pc := 0) hc 1 dL_isTurned_0 rfl rfl ?_
  refine r_sipush (pc := 1) (v := 19999) hc dL_isTurned_1 (by decide) ?_
  obtain ⟨hs1, hok⟩ := hok
  refine r_callS_i (pc := 4) (as := [.int _, .int _]) hc (c_L_low l _ hs1) mS_L_low kM_L_106 ⟨Nat.le_of_ble_eq_true rfl, Nat.le_of_ble_eq_true rfl⟩ ⟨Nat.le_of_ble_eq_true rfl, Nat.le_of_ble_eq_true rfl⟩ rfl rfl (Nat.le_of_ble_eq_true rfl) dL_isTurned_4 (fun r σ' h => ?_)
  obtain ⟨rfl, rfl⟩ := h
  refine r_sipush (pc := 7) (v := 9999) hc dL_isTurned_7 (by decide) ?_
  refine r_isub (pc := 10) hc dL_isTurned_10 ?_
  refine r_istore_n (pc := 11) (lv' := [(2, _), (0, _), (1, _)]) hc dL_isTurned_11 rfl (by decide) rfl ?_
  refine r_aload_n (pc := 12) hc 1 dL_isTurned_12 rfl rfl ?_
  refine r_iconst (pc := 13) (v := 0) hc dL_isTurned_13 rfl ?_
  obtain ⟨hs2, hok⟩ := hok
  refine r_callV_i (pc := 14) (as := [.int _]) hc (c_X5_count l _ hs2) kk5 (o_lt hc (by decide)) rfl mV_X5_count kM_L_19 ⟨Nat.le_of_ble_eq_true rfl, Nat.le_of_ble_eq_true rfl⟩ ⟨Nat.le_of_ble_eq_true rfl, Nat.le_of_ble_eq_true rfl⟩ rfl rfl (Nat.le_of_ble_eq_true rfl) dL_isTurned_14 (fun r σ' h => ?_)
  obtain ⟨rfl, rfl⟩ := h
  refine r_istore_n (pc := 17) (lv' := [(3, _), (2, _), (0, _), (1, _)]) hc dL_isTurned_17 rfl (by decide) rfl ?_
  refine r_aload_n (pc := 18) hc 2 dL_isTurned_18 rfl rfl ?_
  refine r_iconst (pc := 19) (v := 2) hc dL_isTurned_19 rfl ?_
  obtain ⟨hs3, hok⟩ := hok
  refine r_callV_i (pc := 20) (as := [.int _]) hc (c_X5_count l _ hs3) kk5 (o_lt hc (by decide)) rfl mV_X5_count kM_L_19 ⟨Nat.le_of_ble_eq_true rfl, Nat.le_of_ble_eq_true rfl⟩ ⟨Nat.le_of_ble_eq_true rfl, Nat.le_of_ble_eq_true rfl⟩ rfl rfl (Nat.le_of_ble_eq_true rfl) dL_isTurned_20 (fun r σ' h => ?_)
  obtain ⟨rfl, rfl⟩ := h
  refine r_istore (pc := 23) (lv' := [(4, _), (3, _), (2, _), (0, _), (1, _)]) hc dL_isTurned_23 (by decide) rfl ?_
  refine r_aload_n (pc := 25) hc 3 dL_isTurned_25 rfl rfl ?_
  refine r_iconst (pc := 26) (v := 4) hc dL_isTurned_26 rfl ?_
  obtain ⟨hs4, hok⟩ := hok
  refine r_callV_i (pc := 27) (as := [.int _]) hc (c_X5_count l _ hs4) kk5 (o_lt hc (by decide)) rfl mV_X5_count kM_L_19 ⟨Nat.le_of_ble_eq_true rfl, Nat.le_of_ble_eq_true rfl⟩ ⟨Nat.le_of_ble_eq_true rfl, Nat.le_of_ble_eq_true rfl⟩ rfl rfl (Nat.le_of_ble_eq_true rfl) dL_isTurned_27 (fun r σ' h => ?_)
  obtain ⟨rfl, rfl⟩ := h
  refine r_istore (pc := 30) (lv' := [(5, _), (4, _), (3, _), (2, _), (0, _), (1, _)]) hc dL_isTurned_30 (by decide) rfl ?_
  refine r_aload_n (pc := 32) hc 4 dL_isTurned_32 rfl rfl ?_
  refine r_iload_n (pc := 33) hc 3 dL_isTurned_33 rfl rfl ?_
  obtain ⟨hs5, hok⟩ := hok
  refine r_callV_i (pc := 34) (as := [.int _]) hc (c_X5_turn l _ hs5) kk5 (o_lt hc (by decide)) rfl mV_X5_turn kM_L_41 ⟨Nat.le_of_ble_eq_true rfl, Nat.le_of_ble_eq_true rfl⟩ ⟨Nat.le_of_ble_eq_true rfl, Nat.le_of_ble_eq_true rfl⟩ rfl rfl (Nat.le_of_ble_eq_true rfl) dL_isTurned_34 (fun r σ' h => ?_)
  obtain ⟨rfl, rfl⟩ := h
  refine r_istore (pc := 37) (lv' := [(6, _), (5, _), (4, _), (3, _), (2, _), (0, _), (1, _)]) hc dL_isTurned_37 (by decide) rfl ?_
  refine r_iload (pc := 39) hc 0 dL_isTurned_39 rfl ?_
  refine r_if_ge (pc := 41) (tgt := 71) hc dL_isTurned_41 (by decide) (fun c41 => ?_) (fun c41 => ?_)
  · have hok := hok.1 c41
    have hq := o_qp hq c41
    refine r_iload (pc := 71) hc 0 dL_isTurned_71 rfl ?_
    refine r_sipush (pc := 73) (v := 1020) hc dL_isTurned_73 (by decide) ?_
    refine r_idiv (pc := 76) hc dL_isTurned_76 (by decide) ?_
    refine r_iload_n (pc := 77) hc 3 dL_isTurned_77 rfl rfl ?_
    refine r_sipush (pc := 78) (v := 1020) hc dL_isTurned_78 (by decide) ?_
    refine r_idiv (pc := 81) hc dL_isTurned_81 (by decide) ?_
    refine r_isub (pc := 82) hc dL_isTurned_82 ?_
    refine r_istore (pc := 83) (lv' := [(7, _), (6, _), (5, _), (4, _), (3, _), (2, _), (0, _), (1, _)]) hc dL_isTurned_83 (by decide) rfl ?_
    refine r_iload (pc := 85) hc 1 dL_isTurned_85 rfl ?_
    refine r_iload_n (pc := 87) hc 4 dL_isTurned_87 rfl rfl ?_
    refine r_iload_n (pc := 88) hc 5 dL_isTurned_88 rfl rfl ?_
    refine r_iadd (pc := 89) hc dL_isTurned_89 ?_
    refine r_icmp_ne (pc := 90) (tgt := 165) hc dL_isTurned_90 (by decide) (fun c90 => ?_) (fun c90 => ?_)
    · have hok := hok.2 c90
      have hq := o_qn hq c90
      exact o_V.sub (t_L_isTurned_165  hc hr hok hq) [6, 7, 5, 4, 3] rfl
    · have hok := hok.1 c90
      have hq := o_qp hq c90
      refine r_aload_n (pc := 93) hc 6 dL_isTurned_93 rfl rfl ?_
      refine r_iconst (pc := 94) (v := 3) hc dL_isTurned_94 rfl ?_
      obtain ⟨hs7, hok⟩ := hok
      refine r_callV_i (pc := 95) (as := [.int _]) hc (c_X5_count l _ hs7) kk5 (o_lt hc (by decide)) rfl mV_X5_count kM_L_19 ⟨Nat.le_of_ble_eq_true rfl, Nat.le_of_ble_eq_true rfl⟩ ⟨Nat.le_of_ble_eq_true rfl, Nat.le_of_ble_eq_true rfl⟩ rfl rfl (Nat.le_of_ble_eq_true rfl) dL_isTurned_95 (fun r σ' h => ?_)
      obtain ⟨rfl, rfl⟩ := h
      refine r_if_ne (pc := 98) (tgt := 133) hc dL_isTurned_98 (by decide) (fun c98 => ?_) (fun c98 => ?_)
      · have hok := hok.2 c98
        have hq := o_qn hq c98
        refine r_aload_n (pc := 133) hc 6 dL_isTurned_133 rfl rfl ?_
        refine r_iconst (pc := 134) (v := 4) hc dL_isTurned_134 rfl ?_
        obtain ⟨hs8, hok⟩ := hok
        refine r_callV_i (pc := 135) (as := [.int _]) hc (c_X5_count l _ hs8) kk5 (o_lt hc (by decide)) rfl mV_X5_count kM_L_19 ⟨Nat.le_of_ble_eq_true rfl, Nat.le_of_ble_eq_true rfl⟩ ⟨Nat.le_of_ble_eq_true rfl, Nat.le_of_ble_eq_true rfl⟩ rfl rfl (Nat.le_of_ble_eq_true rfl) dL_isTurned_135 (fun r σ' h => ?_)
        obtain ⟨rfl, rfl⟩ := h
        refine r_iload (pc := 138) hc 2 dL_isTurned_138 rfl ?_
        refine r_icmp_ne (pc := 140) (tgt := 165) hc dL_isTurned_140 (by decide) (fun c140 => ?_) (fun c140 => ?_)
        · have hok := hok.2 c140
          have hq := o_qn hq c140
          exact o_V.sub (t_L_isTurned_165  hc hr hok hq) [6, 7, 5, 4, 3] rfl
        · have hok := hok.1 c140
          have hq := o_qp hq c140
          refine r_aload_n (pc := 143) hc 6 dL_isTurned_143 rfl rfl ?_
          refine r_iconst (pc := 144) (v := 2) hc dL_isTurned_144 rfl ?_
          obtain ⟨hs9, hok⟩ := hok
          refine r_callV_i (pc := 145) (as := [.int _]) hc (c_X5_count l _ hs9) kk5 (o_lt hc (by decide)) rfl mV_X5_count kM_L_19 ⟨Nat.le_of_ble_eq_true rfl, Nat.le_of_ble_eq_true rfl⟩ ⟨Nat.le_of_ble_eq_true rfl, Nat.le_of_ble_eq_true rfl⟩ rfl rfl (Nat.le_of_ble_eq_true rfl) dL_isTurned_145 (fun r σ' h => ?_)
          obtain ⟨rfl, rfl⟩ := h
          refine r_iload (pc := 148) hc 3 dL_isTurned_148 rfl ?_
          refine r_iload (pc := 150) hc 0 dL_isTurned_150 rfl ?_
          refine r_iadd (pc := 152) hc dL_isTurned_152 ?_
          refine r_bipush (pc := 153) (v := 64) hc dL_isTurned_153 (by decide) ?_
          obtain ⟨hs10, hok⟩ := hok
          refine r_callS_i (pc := 155) (as := [.int _, .int _]) hc (c_L_rest l _ hs10) mS_L_rest kM_L_9 ⟨Nat.le_of_ble_eq_true rfl, Nat.le_of_ble_eq_true rfl⟩ ⟨Nat.le_of_ble_eq_true rfl, Nat.le_of_ble_eq_true rfl⟩ rfl rfl (Nat.le_of_ble_eq_true rfl) dL_isTurned_155 (fun r σ' h => ?_)
          obtain ⟨rfl, rfl⟩ := h
          refine r_icmp_ne (pc := 158) (tgt := 165) hc dL_isTurned_158 (by decide) (fun c158 => ?_) (fun c158 => ?_)
          · have hok := hok.2 c158
            have hq := o_qn hq c158
            exact o_V.sub (t_L_isTurned_165  hc hr hok hq) [6, 7, 5, 4, 3] rfl
          · have hok := hok.1 c158
            have hq := o_qp hq c158
            exact o_V.sub (t_L_isTurned_161  hc hr hok hq) [6, 7, 5, 4, 3] rfl
      · have hok := hok.1 c98
        have hq := o_qp hq c98
        refine r_iload (pc := 101) hc 2 dL_isTurned_101 rfl ?_
        refine r_aload_n (pc := 103) hc 6 dL_isTurned_103 rfl rfl ?_
        refine r_iconst (pc := 104) (v := 4) hc dL_isTurned_104 rfl ?_
        obtain ⟨hs12, hok⟩ := hok
        refine r_callV_i (pc := 105) (as := [.int _]) hc (c_X5_count l _ hs12) kk5 (o_lt hc (by decide)) rfl mV_X5_count kM_L_19 ⟨Nat.le_of_ble_eq_true rfl, Nat.le_of_ble_eq_true rfl⟩ ⟨Nat.le_of_ble_eq_true rfl, Nat.le_of_ble_eq_true rfl⟩ rfl rfl (Nat.le_of_ble_eq_true rfl) dL_isTurned_105 (fun r σ' h => ?_)
        obtain ⟨rfl, rfl⟩ := h
        refine r_isub (pc := 108) hc dL_isTurned_108 ?_
        refine r_iload (pc := 109) hc 2 dL_isTurned_109 rfl ?_
        refine r_iload (pc := 111) hc 0 dL_isTurned_111 rfl ?_
        refine r_if_ge (pc := 113) (tgt := 122) hc dL_isTurned_113 (by decide) (fun c113 => ?_) (fun c113 => ?_)
        · have hok := hok.1 c113
          have hq := o_qp hq c113
          refine r_iload (pc := 122) hc 0 dL_isTurned_122 rfl ?_
          exact o_V.sub (t_L_isTurned_124  hc hr hok hq) [6, 7, 5, 4, 3] rfl
        · have hok := hok.2 c113
          have hq := o_qn hq c113
          refine r_iload (pc := 116) hc 0 dL_isTurned_116 rfl ?_
          refine r_ineg (pc := 118) hc dL_isTurned_118 ?_
          refine r_goto (pc := 119) (tgt := 124) hc dL_isTurned_119 (by decide) ?_
          exact o_V.sub (t_L_isTurned_124  hc hr hok hq) [6, 7, 5, 4, 3] rfl
  · have hok := hok.2 c41
    have hq := o_qn hq c41
    refine r_iload (pc := 44) hc 0 dL_isTurned_44 rfl ?_
    refine r_bipush (pc := 46) (v := (-2)) hc dL_isTurned_46 (by decide) ?_
    refine r_icmp_ne (pc := 48) (tgt := 69) hc dL_isTurned_48 (by decide) (fun c48 => ?_) (fun c48 => ?_)
    · have hok := hok.2 c48
      have hq := o_qn hq c48
      refine r_iconst (pc := 69) (v := 0) hc dL_isTurned_69 rfl ?_
      exact r_iret hc hr rfl dL_isTurned_70 (hq (_, _) rfl)
    · have hok := hok.1 c48
      have hq := o_qp hq c48
      refine r_iload_n (pc := 51) hc 3 dL_isTurned_51 rfl rfl ?_
      refine r_iload_n (pc := 52) hc 4 dL_isTurned_52 rfl rfl ?_
      refine r_iadd (pc := 53) hc dL_isTurned_53 ?_
      refine r_if_lt (pc := 54) (tgt := 65) hc dL_isTurned_54 (by decide) (fun c54 => ?_) (fun c54 => ?_)
      · have hok := hok.1 c54
        have hq := o_qp hq c54
        refine r_iconst (pc := 65) (v := 1) hc dL_isTurned_65 rfl ?_
        refine r_goto (pc := 66) (tgt := 70) hc dL_isTurned_66 (by decide) ?_
        exact r_iret hc hr rfl dL_isTurned_70 (hq (_, _) rfl)
      · have hok := hok.2 c54
        have hq := o_qn hq c54
        refine r_iload_n (pc := 57) hc 3 dL_isTurned_57 rfl rfl ?_
        refine r_iload_n (pc := 58) hc 4 dL_isTurned_58 rfl rfl ?_
        refine r_iadd (pc := 59) hc dL_isTurned_59 ?_
        refine r_ldc (pc := 60) (v := 65279) hc kK_L_109 dL_isTurned_60 ?_
        refine r_icmp_le (pc := 62) (tgt := 69) hc dL_isTurned_62 (by decide) (fun c62 => ?_) (fun c62 => ?_)
        · have hok := hok.1 c62
          have hq := o_qp hq c62
          refine r_iconst (pc := 69) (v := 0) hc dL_isTurned_69 rfl ?_
          exact r_iret hc hr rfl dL_isTurned_70 (hq (_, _) rfl)
        · have hok := hok.2 c62
          have hq := o_qn hq c62
          refine r_iconst (pc := 65) (v := 1) hc dL_isTurned_65 rfl ?_
          refine r_goto (pc := 66) (tgt := 70) hc dL_isTurned_66 (by decide) ?_
          exact r_iret hc hr rfl dL_isTurned_70 (hq (_, _) rfl)
