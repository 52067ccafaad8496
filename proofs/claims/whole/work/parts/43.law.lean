set_option linter.all false
/-! THE CLAIM OUT OF ONE WALK OF THE LAW'S BODY. Your part is whole_start (and what it stands on); all else here is the same for every law, but numbers. -/
def R_law : String := "VernierEncoderLaw"
def lw_P (b : Addr) (xs : List Int32) (args : Array Value) (s : State) : Prop := args = #[.ref b] ∧ s.IntsAt b xs ∧ xs.length ≤ 2560 ∧ (Jvm.Cond.and given_1 narrow_1).before args s = true
def lw_Q (_ : Array Value) (s : State) (o : Outcome) (t : State) : Prop := o = .returned (some (.int 1)) ∧ Framed s o t [] 41 916
def lw_Z (below : List Frame) (a : Array Value) (s : State) : State → Prop := fun t => ∃ o, t.status = .running ∧ Ended t below o ∧ lw_Q a s o t
/-- the law's own end, with 1 on the stack, nothing written that was there before, its room as the claim has it -/
theorem lw_ret {p : Program} {l : Launch} {e : Env} {s : State} {m : MethodId} {below : List Frame} {meth : Method} {c : Code} {b : Nat} (hx : p.tables.exec = Jvm.exec) (hb : c.code = code) (hr : meth.sig.returnType = ret) (hlocks : meth.locks = false) {pc : Nat} {H : Heap} {ls : Array Slot} (hdg : decode code pc = .ok (.ireturn, 1)) : W p l e room_1 s m #[Value.ref b] below meth c H [] 41 916 (lw_Z below #[Value.ref b] s) (F0 m pc ls [.int 1]) := by
  intro T hT X
  obtain ⟨fs, hret, hrun, hended, hW, hframe⟩ := X.leave (v := some (.int 1)) (hlocks := hlocks) (fun h => by rw [hr] at h; cases h)
  have hmeth' : T.vm.method? m = some meth := X.method'
  refine ⟨T.setFrames fs, ?_, .returned (some (.int 1)), hrun, hended, rfl, ⟨_, rfl⟩, hW, hframe⟩
  jvm_step X.here [X.here.top, hx, hb, hdg, hmeth', hr, ret, narrow_b1]
  (try refine ⟨rfl, ?_⟩); (try refine ⟨rfl, ?_⟩)
  first | (intro acts; rw [hret _ acts rfl rfl rfl]) | rw [hret _ _ rfl rfl rfl]
  exact Steps.refl _
/-- what holds at the law's entry: the machine, the code, the tables' words (any of lw_tbl by 'hts w (by decide +kernel)'), the script of L ints xs at the cell b, what the Statement gives of the start (any of its parts by flat_of_before) -/
def lw_At (p : Program) (s : State) (m : MethodId) (meth : Method) (c : Code) (b L : Nat) (xs : Nat → Int32) : Prop :=
  p.tables.exec = Jvm.exec ∧ c.code = code ∧ meth.sig.returnType = ret ∧ c.maxLocals = 4 ∧ s.vm.findClass R_law = some m.cls ∧ (∀ w ∈ lw_tbl, w.before #[Value.ref b] s = true) ∧ va_X b L xs s s.heap ∧ b < s.heap.size ∧ meth.locks = false ∧ (Jvm.Cond.and given_1 narrow_1).before #[Value.ref b] s = true

abbrev lvL (G : Gt) (b : Nat) (i : Int32) : List (Nat × Value) := [(0, .ref b), (1, .ref (gAd G 0)), (2, .ref (gAd G 34)), (3, .int i)]
section LAW
variable {p : Program} {l : Launch} {e : Env} {s : State} {m : MethodId} {below : List Frame} {meth : Method} {c : Code} {Q : State → Prop} {G : Gt} {b L : Nat} {xs : Nat → Int32} {σ : Sg} {kc ks : Nat} {R : Room}
theorem r_sld {args : Array Value} {cc : ByteArray} {own : String} {nL pc : Nat} {lv : List (Nat × Value)} {st : List Value} (hc : o_Cx p s m args meth c G cc own nL) (hX : va_X b L xs s s.heap) (hbl : b < s.heap.size) (hlo : gLo G = s.heap.size) {i : Int32} (hin : vp_in i L) (hd : decode cc pc = .ok (.iaload, 1))
    (kk : o_V p l e R s m args below meth c Q G kc ks nL σ (pc + 1) lv (.int (xs i.toNatClampNeg) :: st)) : o_V p l e R s m args below meth c Q G kc ks nL σ pc lv (.int i :: .ref b :: st) :=
  fun H locs ls hP hS hl => va_sld hc.1 hc.2.1 hX hbl (by show ¬ gLo G ≤ b; omega) hS hin hd (kk H locs ls hP hS hl)
theorem r_slen {args : Array Value} {cc : ByteArray} {own : String} {nL pc : Nat} {lv : List (Nat × Value)} {st : List Value} (hc : o_Cx p s m args meth c G cc own nL) (hX : va_X b L xs s s.heap) (hbl : b < s.heap.size) (hlo : gLo G = s.heap.size) (hd : decode cc pc = .ok (.arraylength, 1))
    (kk : o_V p l e R s m args below meth c Q G kc ks nL σ (pc + 1) lv (.int (Int32.ofNat L) :: st)) : o_V p l e R s m args below meth c Q G kc ks nL σ pc lv (.ref b :: st) :=
  fun H locs ls hP hS hl => va_slen hc.1 hc.2.1 hX hbl (by show ¬ gLo G ≤ b; omega) hS hd (kk H locs ls hP hS hl)
theorem r_arg {args : Array Value} {cc : ByteArray} {own : String} {pc : Nat} {st : List Value} (hc : o_Cx p s m args meth c G cc own 4) (hX : va_X b L xs s s.heap) (hbl : b < s.heap.size) (hlo : gLo G = s.heap.size) {i kv : Int32} {n : Int} (d0 : decode cc pc = .ok (.aload_n 0, 1)) (d1 : decode cc (pc + 1) = .ok (.iload_n 3, 1)) (d2 : decode cc (pc + 1 + 1) = .ok (.iconst n, 1)) (hk : Int32.ofInt n = kv) (d3 : decode cc (pc + 1 + 1 + 1) = .ok (.iadd, 1)) (d4 : decode cc (pc + 1 + 1 + 1 + 1) = .ok (.iaload, 1)) (hin : vp_in (i + kv) L)
    (kk : o_V p l e R s m args below meth c Q G kc ks 4 σ (pc + 1 + 1 + 1 + 1 + 1) (lvL G b i) (.int (xs (i + kv).toNatClampNeg) :: st)) : o_V p l e R s m args below meth c Q G kc ks 4 σ pc (lvL G b i) st :=
  r_aload_n hc 0 d0 rfl rfl (r_iload_n hc 3 d1 rfl rfl (r_iconst hc d2 hk (r_iadd hc d3 (r_sld hc hX hbl hlo hin d4 kk))))
def lIn (i : Int32) (L : Nat) : Prop := vp_in (i + 1) L ∧ vp_in (i + 2) L ∧ vp_in (i + 3) L ∧ vp_in (i + 4) L

theorem lc_0 (hc : o_Cx p s m #[.ref b] meth c G cL_law RL 4) (hX : va_X b L xs s s.heap) (hbl : b < s.heap.size) (hlo : gLo G = s.heap.size) {i : Int32} {N : Int} (hin : lIn i L) (h0 : 0 ≤ N) (hN : N ≤ 1000000000) (hI : SI N σ) (kk : ∀ σ' : Sg, SI (N + 1) σ' → o_V p l e room_1 s m #[.ref b] below meth c Q G 41 916 4 σ' 800 (lvL G b i) []) : o_V p l e room_1 s m #[.ref b] below meth c Q G 41 916 4 σ 152 (lvL G b i) [] := by
  have H := op_turn (xs (i + 1).toNatClampNeg) N σ hI
  refine r_aload_n (pc := 152) hc 1 dL_law_152 rfl rfl ?_
  refine r_arg (pc := 153) hc hX hbl hlo dL_law_153 dL_law_154 dL_law_155 (kv := 1) rfl dL_law_156 dL_law_157 hin.1 ?_
  refine r_callV_i (pc := 158) (as := [.int _]) hc (c_X5_turn l G H.1) kk5 (by decide) rfl mV_X5_turn kM_L_13 ⟨Nat.le_of_ble_eq_true rfl, Nat.le_of_ble_eq_true rfl⟩ ⟨Nat.le_refl 41, Nat.le_refl 916⟩ rfl rfl (Nat.le_of_ble_eq_true rfl) dL_law_158 (fun r0 σ0 h0 => ?_)
  obtain ⟨rfl, rfl⟩ := h0
  refine r_aload_n (pc := 161) hc 2 dL_law_161 rfl rfl ?_
  refine r_arg (pc := 162) hc hX hbl hlo dL_law_162 dL_law_163 dL_law_164 (kv := 1) rfl dL_law_165 dL_law_166 hin.1 ?_
  refine r_callV_i (pc := 167) (as := [.int _]) hc (c_X6_turn l G H.2.1) kk6 (by decide) rfl mV_X6_turn kM_L_17 ⟨Nat.le_of_ble_eq_true rfl, Nat.le_of_ble_eq_true rfl⟩ ⟨Nat.le_refl 41, Nat.le_refl 916⟩ rfl rfl (Nat.le_of_ble_eq_true rfl) dL_law_167 (fun r34 σ34 h34 => ?_)
  obtain ⟨rfl, rfl⟩ := h34
  exact r_icmp_eq (tgt := 800) hc dL_law_170 (by decide) (fun _ => kk _ H.2.2.2) (fun hne => absurd H.2.2.1 hne)
theorem lc_1 (hc : o_Cx p s m #[.ref b] meth c G cL_law RL 4) (hX : va_X b L xs s s.heap) (hbl : b < s.heap.size) (hlo : gLo G = s.heap.size) {i : Int32} {N : Int} (hin : lIn i L) (h0 : 0 ≤ N) (hN : N ≤ 1000000000) (hI : SI N σ) (kk : ∀ σ' : Sg, SI (N + 1) σ' → o_V p l e room_1 s m #[.ref b] below meth c Q G 41 916 4 σ' 800 (lvL G b i) []) : o_V p l e room_1 s m #[.ref b] below meth c Q G 41 916 4 σ 175 (lvL G b i) [] := by
  have H := op_power (xs (i + 1).toNatClampNeg) N σ hI
  refine r_aload_n (pc := 175) hc 1 dL_law_175 rfl rfl ?_
  refine r_arg (pc := 176) hc hX hbl hlo dL_law_176 dL_law_177 dL_law_178 (kv := 1) rfl dL_law_179 dL_law_180 hin.1 ?_
  refine r_callV_i (pc := 181) (as := [.int _]) hc (c_X5_power l G H.1) kk5 (by decide) rfl mV_X5_power kM_L_18 ⟨Nat.le_of_ble_eq_true rfl, Nat.le_of_ble_eq_true rfl⟩ ⟨Nat.le_refl 41, Nat.le_refl 916⟩ rfl rfl (Nat.le_of_ble_eq_true rfl) dL_law_181 (fun r0 σ0 h0 => ?_)
  obtain ⟨rfl, rfl⟩ := h0
  refine r_aload_n (pc := 184) hc 2 dL_law_184 rfl rfl ?_
  refine r_arg (pc := 185) hc hX hbl hlo dL_law_185 dL_law_186 dL_law_187 (kv := 1) rfl dL_law_188 dL_law_189 hin.1 ?_
  refine r_callV_i (pc := 190) (as := [.int _]) hc (c_X6_power l G H.2.1) kk6 (by decide) rfl mV_X6_power kM_L_21 ⟨Nat.le_of_ble_eq_true rfl, Nat.le_of_ble_eq_true rfl⟩ ⟨Nat.le_refl 41, Nat.le_refl 916⟩ rfl rfl (Nat.le_of_ble_eq_true rfl) dL_law_190 (fun r34 σ34 h34 => ?_)
  obtain ⟨rfl, rfl⟩ := h34
  exact r_icmp_eq (tgt := 800) hc dL_law_193 (by decide) (fun _ => kk _ H.2.2.2) (fun hne => absurd H.2.2.1 hne)
theorem lc_2 (hc : o_Cx p s m #[.ref b] meth c G cL_law RL 4) (hX : va_X b L xs s s.heap) (hbl : b < s.heap.size) (hlo : gLo G = s.heap.size) {i : Int32} {N : Int} (hin : lIn i L) (h0 : 0 ≤ N) (hN : N ≤ 1000000000) (hI : SI N σ) (kk : ∀ σ' : Sg, SI (N + 1) σ' → o_V p l e room_1 s m #[.ref b] below meth c Q G 41 916 4 σ' 800 (lvL G b i) []) : o_V p l e room_1 s m #[.ref b] below meth c Q G 41 916 4 σ 198 (lvL G b i) [] := by
  have H := op_brownout (xs (i + 1).toNatClampNeg) N σ hI
  refine r_aload_n (pc := 198) hc 1 dL_law_198 rfl rfl ?_
  refine r_arg (pc := 199) hc hX hbl hlo dL_law_199 dL_law_200 dL_law_201 (kv := 1) rfl dL_law_202 dL_law_203 hin.1 ?_
  refine r_callV_i (pc := 204) (as := [.int _]) hc (c_X5_brownout l G H.1) kk5 (by decide) rfl mV_X5_brownout kM_L_22 ⟨Nat.le_of_ble_eq_true rfl, Nat.le_of_ble_eq_true rfl⟩ ⟨Nat.le_refl 41, Nat.le_refl 916⟩ rfl rfl (Nat.le_of_ble_eq_true rfl) dL_law_204 (fun r0 σ0 h0 => ?_)
  obtain ⟨rfl, rfl⟩ := h0
  refine r_aload_n (pc := 207) hc 2 dL_law_207 rfl rfl ?_
  refine r_arg (pc := 208) hc hX hbl hlo dL_law_208 dL_law_209 dL_law_210 (kv := 1) rfl dL_law_211 dL_law_212 hin.1 ?_
  refine r_callV_i (pc := 213) (as := [.int _]) hc (c_X6_brownout l G H.2.1) kk6 (by decide) rfl mV_X6_brownout kM_L_25 ⟨Nat.le_of_ble_eq_true rfl, Nat.le_of_ble_eq_true rfl⟩ ⟨Nat.le_refl 41, Nat.le_refl 916⟩ rfl rfl (Nat.le_of_ble_eq_true rfl) dL_law_213 (fun r34 σ34 h34 => ?_)
  obtain ⟨rfl, rfl⟩ := h34
  exact r_icmp_eq (tgt := 800) hc dL_law_216 (by decide) (fun _ => kk _ H.2.2.2) (fun hne => absurd H.2.2.1 hne)
theorem lc_3 (hc : o_Cx p s m #[.ref b] meth c G cL_law RL 4) (hX : va_X b L xs s s.heap) (hbl : b < s.heap.size) (hlo : gLo G = s.heap.size) {i : Int32} {N : Int} (hin : lIn i L) (h0 : 0 ≤ N) (hN : N ≤ 1000000000) (hI : SI N σ) (kk : ∀ σ' : Sg, SI (N + 1) σ' → o_V p l e room_1 s m #[.ref b] below meth c Q G 41 916 4 σ' 800 (lvL G b i) []) : o_V p l e room_1 s m #[.ref b] below meth c Q G 41 916 4 σ 221 (lvL G b i) [] := by
  have H := op_charge (xs (i + 1).toNatClampNeg) N σ hI
  refine r_aload_n (pc := 221) hc 1 dL_law_221 rfl rfl ?_
  refine r_arg (pc := 222) hc hX hbl hlo dL_law_222 dL_law_223 dL_law_224 (kv := 1) rfl dL_law_225 dL_law_226 hin.1 ?_
  refine r_callV_i (pc := 227) (as := [.int _]) hc (c_X5_charge l G H.1) kk5 (by decide) rfl mV_X5_charge kM_L_26 ⟨Nat.le_of_ble_eq_true rfl, Nat.le_of_ble_eq_true rfl⟩ ⟨Nat.le_refl 41, Nat.le_refl 916⟩ rfl rfl (Nat.le_of_ble_eq_true rfl) dL_law_227 (fun r0 σ0 h0 => ?_)
  obtain ⟨rfl, rfl⟩ := h0
  refine r_aload_n (pc := 230) hc 2 dL_law_230 rfl rfl ?_
  refine r_arg (pc := 231) hc hX hbl hlo dL_law_231 dL_law_232 dL_law_233 (kv := 1) rfl dL_law_234 dL_law_235 hin.1 ?_
  refine r_callV_i (pc := 236) (as := [.int _]) hc (c_X6_charge l G H.2.1) kk6 (by decide) rfl mV_X6_charge kM_L_29 ⟨Nat.le_of_ble_eq_true rfl, Nat.le_of_ble_eq_true rfl⟩ ⟨Nat.le_refl 41, Nat.le_refl 916⟩ rfl rfl (Nat.le_of_ble_eq_true rfl) dL_law_236 (fun r34 σ34 h34 => ?_)
  obtain ⟨rfl, rfl⟩ := h34
  exact r_icmp_eq (tgt := 800) hc dL_law_239 (by decide) (fun _ => kk _ H.2.2.2) (fun hne => absurd H.2.2.1 hne)
theorem lc_4 (hc : o_Cx p s m #[.ref b] meth c G cL_law RL 4) (hX : va_X b L xs s s.heap) (hbl : b < s.heap.size) (hlo : gLo G = s.heap.size) {i : Int32} {N : Int} (hin : lIn i L) (h0 : 0 ≤ N) (hN : N ≤ 1000000000) (hI : SI N σ) (kk : ∀ σ' : Sg, SI (N + 1) σ' → o_V p l e room_1 s m #[.ref b] below meth c Q G 41 916 4 σ' 800 (lvL G b i) []) : o_V p l e room_1 s m #[.ref b] below meth c Q G 41 916 4 σ 244 (lvL G b i) [] := by
  have H := op_count (xs (i + 1).toNatClampNeg) N σ hI
  refine r_aload_n (pc := 244) hc 1 dL_law_244 rfl rfl ?_
  refine r_arg (pc := 245) hc hX hbl hlo dL_law_245 dL_law_246 dL_law_247 (kv := 1) rfl dL_law_248 dL_law_249 hin.1 ?_
  refine r_callV_i (pc := 250) (as := [.int _]) hc (c_X5_count l G H.1) kk5 (by decide) rfl mV_X5_count kM_L_30 ⟨Nat.le_of_ble_eq_true rfl, Nat.le_of_ble_eq_true rfl⟩ ⟨Nat.le_refl 41, Nat.le_refl 916⟩ rfl rfl (Nat.le_of_ble_eq_true rfl) dL_law_250 (fun r0 σ0 h0 => ?_)
  obtain ⟨rfl, rfl⟩ := h0
  refine r_aload_n (pc := 253) hc 2 dL_law_253 rfl rfl ?_
  refine r_arg (pc := 254) hc hX hbl hlo dL_law_254 dL_law_255 dL_law_256 (kv := 1) rfl dL_law_257 dL_law_258 hin.1 ?_
  refine r_callV_i (pc := 259) (as := [.int _]) hc (c_X6_count l G H.2.1) kk6 (by decide) rfl mV_X6_count kM_L_33 ⟨Nat.le_of_ble_eq_true rfl, Nat.le_of_ble_eq_true rfl⟩ ⟨Nat.le_refl 41, Nat.le_refl 916⟩ rfl rfl (Nat.le_of_ble_eq_true rfl) dL_law_259 (fun r34 σ34 h34 => ?_)
  obtain ⟨rfl, rfl⟩ := h34
  exact r_icmp_eq (tgt := 800) hc dL_law_262 (by decide) (fun _ => kk _ H.2.2.2) (fun hne => absurd H.2.2.1 hne)
theorem lc_5 (hc : o_Cx p s m #[.ref b] meth c G cL_law RL 4) (hX : va_X b L xs s s.heap) (hbl : b < s.heap.size) (hlo : gLo G = s.heap.size) {i : Int32} {N : Int} (hin : lIn i L) (h0 : 0 ≤ N) (hN : N ≤ 1000000000) (hI : SI N σ) (kk : ∀ σ' : Sg, SI (N + 1) σ' → o_V p l e room_1 s m #[.ref b] below meth c Q G 41 916 4 σ' 800 (lvL G b i) []) : o_V p l e room_1 s m #[.ref b] below meth c Q G 41 916 4 σ 267 (lvL G b i) [] := by
  have H := op_undo  N σ hI
  refine r_aload_n (pc := 267) hc 1 dL_law_267 rfl rfl ?_
  refine r_callV_i (pc := 268) (as := []) hc (c_X5_undo l G H.1) kk5 (by decide) rfl mV_X5_undo kM_L_34 ⟨Nat.le_of_ble_eq_true rfl, Nat.le_of_ble_eq_true rfl⟩ ⟨Nat.le_refl 41, Nat.le_refl 916⟩ rfl rfl (Nat.le_of_ble_eq_true rfl) dL_law_268 (fun r0 σ0 h0 => ?_)
  obtain ⟨rfl, rfl⟩ := h0
  refine r_aload_n (pc := 271) hc 2 dL_law_271 rfl rfl ?_
  refine r_callV_i (pc := 272) (as := []) hc (c_X6_undo l G H.2.1) kk6 (by decide) rfl mV_X6_undo kM_L_38 ⟨Nat.le_of_ble_eq_true rfl, Nat.le_of_ble_eq_true rfl⟩ ⟨Nat.le_refl 41, Nat.le_refl 916⟩ rfl rfl (Nat.le_of_ble_eq_true rfl) dL_law_272 (fun r34 σ34 h34 => ?_)
  obtain ⟨rfl, rfl⟩ := h34
  exact r_icmp_eq (tgt := 800) hc dL_law_275 (by decide) (fun _ => kk _ H.2.2.2) (fun hne => absurd H.2.2.1 hne)
theorem lc_6 (hc : o_Cx p s m #[.ref b] meth c G cL_law RL 4) (hX : va_X b L xs s s.heap) (hbl : b < s.heap.size) (hlo : gLo G = s.heap.size) {i : Int32} {N : Int} (hin : lIn i L) (h0 : 0 ≤ N) (hN : N ≤ 1000000000) (hI : SI N σ) (kk : ∀ σ' : Sg, SI (N + 1) σ' → o_V p l e room_1 s m #[.ref b] below meth c Q G 41 916 4 σ' 800 (lvL G b i) []) : o_V p l e room_1 s m #[.ref b] below meth c Q G 41 916 4 σ 280 (lvL G b i) [] := by
  have H := op_disk (xs (i + 1).toNatClampNeg) (xs (i + 2).toNatClampNeg) (xs (i + 3).toNatClampNeg) N σ hI
  refine r_aload_n (pc := 280) hc 1 dL_law_280 rfl rfl ?_
  refine r_arg (pc := 281) hc hX hbl hlo dL_law_281 dL_law_282 dL_law_283 (kv := 1) rfl dL_law_284 dL_law_285 hin.1 ?_
  refine r_arg (pc := 286) hc hX hbl hlo dL_law_286 dL_law_287 dL_law_288 (kv := 2) rfl dL_law_289 dL_law_290 hin.2.1 ?_
  refine r_arg (pc := 291) hc hX hbl hlo dL_law_291 dL_law_292 dL_law_293 (kv := 3) rfl dL_law_294 dL_law_295 hin.2.2.1 ?_
  refine r_callV_i (pc := 296) (as := [.int _, .int _, .int _]) hc (c_X5_disk l G H.1) kk5 (by decide) rfl mV_X5_disk kM_L_39 ⟨Nat.le_of_ble_eq_true rfl, Nat.le_of_ble_eq_true rfl⟩ ⟨Nat.le_refl 41, Nat.le_refl 916⟩ rfl rfl (Nat.le_of_ble_eq_true rfl) dL_law_296 (fun r0 σ0 h0 => ?_)
  obtain ⟨rfl, rfl⟩ := h0
  refine r_aload_n (pc := 299) hc 2 dL_law_299 rfl rfl ?_
  refine r_arg (pc := 300) hc hX hbl hlo dL_law_300 dL_law_301 dL_law_302 (kv := 1) rfl dL_law_303 dL_law_304 hin.1 ?_
  refine r_arg (pc := 305) hc hX hbl hlo dL_law_305 dL_law_306 dL_law_307 (kv := 2) rfl dL_law_308 dL_law_309 hin.2.1 ?_
  refine r_arg (pc := 310) hc hX hbl hlo dL_law_310 dL_law_311 dL_law_312 (kv := 3) rfl dL_law_313 dL_law_314 hin.2.2.1 ?_
  refine r_callV_i (pc := 315) (as := [.int _, .int _, .int _]) hc (c_X6_disk l G H.2.1) kk6 (by decide) rfl mV_X6_disk kM_L_43 ⟨Nat.le_of_ble_eq_true rfl, Nat.le_of_ble_eq_true rfl⟩ ⟨Nat.le_refl 41, Nat.le_refl 916⟩ rfl rfl (Nat.le_of_ble_eq_true rfl) dL_law_315 (fun r34 σ34 h34 => ?_)
  obtain ⟨rfl, rfl⟩ := h34
  exact r_icmp_eq (tgt := 800) hc dL_law_318 (by decide) (fun _ => kk _ H.2.2.2) (fun hne => absurd H.2.2.1 hne)
theorem lc_7 (hc : o_Cx p s m #[.ref b] meth c G cL_law RL 4) (hX : va_X b L xs s s.heap) (hbl : b < s.heap.size) (hlo : gLo G = s.heap.size) {i : Int32} {N : Int} (hin : lIn i L) (h0 : 0 ≤ N) (hN : N ≤ 1000000000) (hI : SI N σ) (kk : ∀ σ' : Sg, SI (N + 1) σ' → o_V p l e room_1 s m #[.ref b] below meth c Q G 41 916 4 σ' 800 (lvL G b i) []) : o_V p l e room_1 s m #[.ref b] below meth c Q G 41 916 4 σ 323 (lvL G b i) [] := by
  have H := op_noise (xs (i + 1).toNatClampNeg) (xs (i + 2).toNatClampNeg) N σ hI
  refine r_aload_n (pc := 323) hc 1 dL_law_323 rfl rfl ?_
  refine r_arg (pc := 324) hc hX hbl hlo dL_law_324 dL_law_325 dL_law_326 (kv := 1) rfl dL_law_327 dL_law_328 hin.1 ?_
  refine r_arg (pc := 329) hc hX hbl hlo dL_law_329 dL_law_330 dL_law_331 (kv := 2) rfl dL_law_332 dL_law_333 hin.2.1 ?_
  refine r_callV_i (pc := 334) (as := [.int _, .int _]) hc (c_X5_noise l G H.1) kk5 (by decide) rfl mV_X5_noise kM_L_44 ⟨Nat.le_of_ble_eq_true rfl, Nat.le_of_ble_eq_true rfl⟩ ⟨Nat.le_refl 41, Nat.le_refl 916⟩ rfl rfl (Nat.le_of_ble_eq_true rfl) dL_law_334 (fun r0 σ0 h0 => ?_)
  obtain ⟨rfl, rfl⟩ := h0
  refine r_aload_n (pc := 337) hc 2 dL_law_337 rfl rfl ?_
  refine r_arg (pc := 338) hc hX hbl hlo dL_law_338 dL_law_339 dL_law_340 (kv := 1) rfl dL_law_341 dL_law_342 hin.1 ?_
  refine r_arg (pc := 343) hc hX hbl hlo dL_law_343 dL_law_344 dL_law_345 (kv := 2) rfl dL_law_346 dL_law_347 hin.2.1 ?_
  refine r_callV_i (pc := 348) (as := [.int _, .int _]) hc (c_X6_noise l G H.2.1) kk6 (by decide) rfl mV_X6_noise kM_L_48 ⟨Nat.le_of_ble_eq_true rfl, Nat.le_of_ble_eq_true rfl⟩ ⟨Nat.le_refl 41, Nat.le_refl 916⟩ rfl rfl (Nat.le_of_ble_eq_true rfl) dL_law_348 (fun r34 σ34 h34 => ?_)
  obtain ⟨rfl, rfl⟩ := h34
  exact r_icmp_eq (tgt := 800) hc dL_law_351 (by decide) (fun _ => kk _ H.2.2.2) (fun hne => absurd H.2.2.1 hne)
theorem lc_8 (hc : o_Cx p s m #[.ref b] meth c G cL_law RL 4) (hX : va_X b L xs s s.heap) (hbl : b < s.heap.size) (hlo : gLo G = s.heap.size) {i : Int32} {N : Int} (hin : lIn i L) (h0 : 0 ≤ N) (hN : N ≤ 1000000000) (hI : SI N σ) (kk : ∀ σ' : Sg, SI (N + 1) σ' → o_V p l e room_1 s m #[.ref b] below meth c Q G 41 916 4 σ' 800 (lvL G b i) []) : o_V p l e room_1 s m #[.ref b] below meth c Q G 41 916 4 σ 356 (lvL G b i) [] := by
  have H := op_setting (xs (i + 1).toNatClampNeg) (xs (i + 2).toNatClampNeg) N σ hI
  refine r_aload_n (pc := 356) hc 1 dL_law_356 rfl rfl ?_
  refine r_arg (pc := 357) hc hX hbl hlo dL_law_357 dL_law_358 dL_law_359 (kv := 1) rfl dL_law_360 dL_law_361 hin.1 ?_
  refine r_arg (pc := 362) hc hX hbl hlo dL_law_362 dL_law_363 dL_law_364 (kv := 2) rfl dL_law_365 dL_law_366 hin.2.1 ?_
  refine r_callV_i (pc := 367) (as := [.int _, .int _]) hc (c_X5_set l G H.1) kk5 (by decide) rfl mV_X5_set kM_L_49 ⟨Nat.le_of_ble_eq_true rfl, Nat.le_of_ble_eq_true rfl⟩ ⟨Nat.le_refl 41, Nat.le_refl 916⟩ rfl rfl (Nat.le_of_ble_eq_true rfl) dL_law_367 (fun r0 σ0 h0 => ?_)
  obtain ⟨rfl, rfl⟩ := h0
  refine r_aload_n (pc := 370) hc 2 dL_law_370 rfl rfl ?_
  refine r_arg (pc := 371) hc hX hbl hlo dL_law_371 dL_law_372 dL_law_373 (kv := 1) rfl dL_law_374 dL_law_375 hin.1 ?_
  refine r_arg (pc := 376) hc hX hbl hlo dL_law_376 dL_law_377 dL_law_378 (kv := 2) rfl dL_law_379 dL_law_380 hin.2.1 ?_
  refine r_callV_i (pc := 381) (as := [.int _, .int _]) hc (c_X6_set l G H.2.1) kk6 (by decide) rfl mV_X6_set kM_L_52 ⟨Nat.le_of_ble_eq_true rfl, Nat.le_of_ble_eq_true rfl⟩ ⟨Nat.le_refl 41, Nat.le_refl 916⟩ rfl rfl (Nat.le_of_ble_eq_true rfl) dL_law_381 (fun r34 σ34 h34 => ?_)
  obtain ⟨rfl, rfl⟩ := h34
  exact r_icmp_eq (tgt := 800) hc dL_law_384 (by decide) (fun _ => kk _ H.2.2.2) (fun hne => absurd H.2.2.1 hne)
theorem lc_9 (hc : o_Cx p s m #[.ref b] meth c G cL_law RL 4) (hX : va_X b L xs s s.heap) (hbl : b < s.heap.size) (hlo : gLo G = s.heap.size) {i : Int32} {N : Int} (hin : lIn i L) (h0 : 0 ≤ N) (hN : N ≤ 1000000000) (hI : SI N σ) (kk : ∀ σ' : Sg, SI (N + 1) σ' → o_V p l e room_1 s m #[.ref b] below meth c Q G 41 916 4 σ' 800 (lvL G b i) []) : o_V p l e room_1 s m #[.ref b] below meth c Q G 41 916 4 σ 389 (lvL G b i) [] := by
  have H := op_reading (xs (i + 1).toNatClampNeg) N σ hI
  refine r_aload_n (pc := 389) hc 1 dL_law_389 rfl rfl ?_
  refine r_arg (pc := 390) hc hX hbl hlo dL_law_390 dL_law_391 dL_law_392 (kv := 1) rfl dL_law_393 dL_law_394 hin.1 ?_
  refine r_callV_i (pc := 395) (as := [.int _]) hc (c_X5_reading l G H.1) kk5 (by decide) rfl mV_X5_reading kM_L_53 ⟨Nat.le_of_ble_eq_true rfl, Nat.le_of_ble_eq_true rfl⟩ ⟨Nat.le_refl 41, Nat.le_refl 916⟩ rfl rfl (Nat.le_of_ble_eq_true rfl) dL_law_395 (fun r0 σ0 h0 => ?_)
  obtain ⟨rfl, rfl⟩ := h0
  refine r_aload_n (pc := 398) hc 2 dL_law_398 rfl rfl ?_
  refine r_arg (pc := 399) hc hX hbl hlo dL_law_399 dL_law_400 dL_law_401 (kv := 1) rfl dL_law_402 dL_law_403 hin.1 ?_
  refine r_callV_i (pc := 404) (as := [.int _]) hc (c_X6_reading l G H.2.1) kk6 (by decide) rfl mV_X6_reading kM_L_56 ⟨Nat.le_of_ble_eq_true rfl, Nat.le_of_ble_eq_true rfl⟩ ⟨Nat.le_refl 41, Nat.le_refl 916⟩ rfl rfl (Nat.le_of_ble_eq_true rfl) dL_law_404 (fun r34 σ34 h34 => ?_)
  obtain ⟨rfl, rfl⟩ := h34
  exact r_icmp_eq (tgt := 800) hc dL_law_407 (by decide) (fun _ => kk _ H.2.2.2) (fun hne => absurd H.2.2.1 hne)
theorem lc_10 (hc : o_Cx p s m #[.ref b] meth c G cL_law RL 4) (hX : va_X b L xs s s.heap) (hbl : b < s.heap.size) (hlo : gLo G = s.heap.size) {i : Int32} {N : Int} (hin : lIn i L) (h0 : 0 ≤ N) (hN : N ≤ 1000000000) (hI : SI N σ) (kk : ∀ σ' : Sg, SI (N + 1) σ' → o_V p l e room_1 s m #[.ref b] below meth c Q G 41 916 4 σ' 800 (lvL G b i) []) : o_V p l e room_1 s m #[.ref b] below meth c Q G 41 916 4 σ 412 (lvL G b i) [] := by
  have H := op_found (xs (i + 1).toNatClampNeg) (xs (i + 2).toNatClampNeg) (xs (i + 3).toNatClampNeg) (xs (i + 4).toNatClampNeg) N σ hI
  refine r_aload_n (pc := 412) hc 1 dL_law_412 rfl rfl ?_
  refine r_arg (pc := 413) hc hX hbl hlo dL_law_413 dL_law_414 dL_law_415 (kv := 1) rfl dL_law_416 dL_law_417 hin.1 ?_
  refine r_arg (pc := 418) hc hX hbl hlo dL_law_418 dL_law_419 dL_law_420 (kv := 2) rfl dL_law_421 dL_law_422 hin.2.1 ?_
  refine r_arg (pc := 423) hc hX hbl hlo dL_law_423 dL_law_424 dL_law_425 (kv := 3) rfl dL_law_426 dL_law_427 hin.2.2.1 ?_
  refine r_arg (pc := 428) hc hX hbl hlo dL_law_428 dL_law_429 dL_law_430 (kv := 4) rfl dL_law_431 dL_law_432 hin.2.2.2 ?_
  refine r_callV_i (pc := 433) (as := [.int _, .int _, .int _, .int _]) hc (c_X5_found l G H.1) kk5 (by decide) rfl mV_X5_found kM_L_57 ⟨Nat.le_of_ble_eq_true rfl, Nat.le_of_ble_eq_true rfl⟩ ⟨Nat.le_refl 41, Nat.le_refl 916⟩ rfl rfl (Nat.le_of_ble_eq_true rfl) dL_law_433 (fun r0 σ0 h0 => ?_)
  obtain ⟨rfl, rfl⟩ := h0
  refine r_aload_n (pc := 436) hc 2 dL_law_436 rfl rfl ?_
  refine r_arg (pc := 437) hc hX hbl hlo dL_law_437 dL_law_438 dL_law_439 (kv := 1) rfl dL_law_440 dL_law_441 hin.1 ?_
  refine r_arg (pc := 442) hc hX hbl hlo dL_law_442 dL_law_443 dL_law_444 (kv := 2) rfl dL_law_445 dL_law_446 hin.2.1 ?_
  refine r_arg (pc := 447) hc hX hbl hlo dL_law_447 dL_law_448 dL_law_449 (kv := 3) rfl dL_law_450 dL_law_451 hin.2.2.1 ?_
  refine r_arg (pc := 452) hc hX hbl hlo dL_law_452 dL_law_453 dL_law_454 (kv := 4) rfl dL_law_455 dL_law_456 hin.2.2.2 ?_
  refine r_callV_i (pc := 457) (as := [.int _, .int _, .int _, .int _]) hc (c_X6_found l G H.2.1) kk6 (by decide) rfl mV_X6_found kM_L_61 ⟨Nat.le_of_ble_eq_true rfl, Nat.le_of_ble_eq_true rfl⟩ ⟨Nat.le_refl 41, Nat.le_refl 916⟩ rfl rfl (Nat.le_of_ble_eq_true rfl) dL_law_457 (fun r34 σ34 h34 => ?_)
  obtain ⟨rfl, rfl⟩ := h34
  exact r_icmp_eq (tgt := 800) hc dL_law_460 (by decide) (fun _ => kk _ H.2.2.2) (fun hne => absurd H.2.2.1 hne)
theorem lc_11 (hc : o_Cx p s m #[.ref b] meth c G cL_law RL 4) (hX : va_X b L xs s s.heap) (hbl : b < s.heap.size) (hlo : gLo G = s.heap.size) {i : Int32} {N : Int} (hin : lIn i L) (h0 : 0 ≤ N) (hN : N ≤ 1000000000) (hI : SI N σ) (kk : ∀ σ' : Sg, SI (N + 1) σ' → o_V p l e room_1 s m #[.ref b] below meth c Q G 41 916 4 σ' 800 (lvL G b i) []) : o_V p l e room_1 s m #[.ref b] below meth c Q G 41 916 4 σ 465 (lvL G b i) [] := by
  have H := op_byTwo (xs (i + 1).toNatClampNeg) (xs (i + 2).toNatClampNeg) (xs (i + 3).toNatClampNeg) (xs (i + 4).toNatClampNeg) N σ hI
  refine r_aload_n (pc := 465) hc 1 dL_law_465 rfl rfl ?_
  refine r_arg (pc := 466) hc hX hbl hlo dL_law_466 dL_law_467 dL_law_468 (kv := 1) rfl dL_law_469 dL_law_470 hin.1 ?_
  refine r_arg (pc := 471) hc hX hbl hlo dL_law_471 dL_law_472 dL_law_473 (kv := 2) rfl dL_law_474 dL_law_475 hin.2.1 ?_
  refine r_arg (pc := 476) hc hX hbl hlo dL_law_476 dL_law_477 dL_law_478 (kv := 3) rfl dL_law_479 dL_law_480 hin.2.2.1 ?_
  refine r_arg (pc := 481) hc hX hbl hlo dL_law_481 dL_law_482 dL_law_483 (kv := 4) rfl dL_law_484 dL_law_485 hin.2.2.2 ?_
  refine r_callV_i (pc := 486) (as := [.int _, .int _, .int _, .int _]) hc (c_X5_byTwo l G H.1) kk5 (by decide) rfl mV_X5_byTwo kM_L_62 ⟨Nat.le_of_ble_eq_true rfl, Nat.le_of_ble_eq_true rfl⟩ ⟨Nat.le_refl 41, Nat.le_refl 916⟩ rfl rfl (Nat.le_of_ble_eq_true rfl) dL_law_486 (fun r0 σ0 h0 => ?_)
  obtain ⟨rfl, rfl⟩ := h0
  refine r_aload_n (pc := 489) hc 2 dL_law_489 rfl rfl ?_
  refine r_arg (pc := 490) hc hX hbl hlo dL_law_490 dL_law_491 dL_law_492 (kv := 1) rfl dL_law_493 dL_law_494 hin.1 ?_
  refine r_arg (pc := 495) hc hX hbl hlo dL_law_495 dL_law_496 dL_law_497 (kv := 2) rfl dL_law_498 dL_law_499 hin.2.1 ?_
  refine r_arg (pc := 500) hc hX hbl hlo dL_law_500 dL_law_501 dL_law_502 (kv := 3) rfl dL_law_503 dL_law_504 hin.2.2.1 ?_
  refine r_arg (pc := 505) hc hX hbl hlo dL_law_505 dL_law_506 dL_law_507 (kv := 4) rfl dL_law_508 dL_law_509 hin.2.2.2 ?_
  refine r_callV_i (pc := 510) (as := [.int _, .int _, .int _, .int _]) hc (c_X6_byTwo l G H.2.1) kk6 (by decide) rfl mV_X6_byTwo kM_L_65 ⟨Nat.le_of_ble_eq_true rfl, Nat.le_of_ble_eq_true rfl⟩ ⟨Nat.le_refl 41, Nat.le_refl 916⟩ rfl rfl (Nat.le_of_ble_eq_true rfl) dL_law_510 (fun r34 σ34 h34 => ?_)
  obtain ⟨rfl, rfl⟩ := h34
  exact r_icmp_eq (tgt := 800) hc dL_law_513 (by decide) (fun _ => kk _ H.2.2.2) (fun hne => absurd H.2.2.1 hne)
theorem lc_12 (hc : o_Cx p s m #[.ref b] meth c G cL_law RL 4) (hX : va_X b L xs s s.heap) (hbl : b < s.heap.size) (hlo : gLo G = s.heap.size) {i : Int32} {N : Int} (hin : lIn i L) (h0 : 0 ≤ N) (hN : N ≤ 1000000000) (hI : SI N σ) (kk : ∀ σ' : Sg, SI (N + 1) σ' → o_V p l e room_1 s m #[.ref b] below meth c Q G 41 916 4 σ' 800 (lvL G b i) []) : o_V p l e room_1 s m #[.ref b] below meth c Q G 41 916 4 σ 518 (lvL G b i) [] := by
  have H := op_correct (xs (i + 1).toNatClampNeg) (xs (i + 2).toNatClampNeg) (xs (i + 3).toNatClampNeg) N σ hI
  refine r_aload_n (pc := 518) hc 1 dL_law_518 rfl rfl ?_
  refine r_arg (pc := 519) hc hX hbl hlo dL_law_519 dL_law_520 dL_law_521 (kv := 1) rfl dL_law_522 dL_law_523 hin.1 ?_
  refine r_arg (pc := 524) hc hX hbl hlo dL_law_524 dL_law_525 dL_law_526 (kv := 2) rfl dL_law_527 dL_law_528 hin.2.1 ?_
  refine r_arg (pc := 529) hc hX hbl hlo dL_law_529 dL_law_530 dL_law_531 (kv := 3) rfl dL_law_532 dL_law_533 hin.2.2.1 ?_
  refine r_callV_i (pc := 534) (as := [.int _, .int _, .int _]) hc (c_X5_correct l G H.1) kk5 (by decide) rfl mV_X5_correct kM_L_66 ⟨Nat.le_of_ble_eq_true rfl, Nat.le_of_ble_eq_true rfl⟩ ⟨Nat.le_refl 41, Nat.le_refl 916⟩ rfl rfl (Nat.le_of_ble_eq_true rfl) dL_law_534 (fun r0 σ0 h0 => ?_)
  obtain ⟨rfl, rfl⟩ := h0
  refine r_aload_n (pc := 537) hc 2 dL_law_537 rfl rfl ?_
  refine r_arg (pc := 538) hc hX hbl hlo dL_law_538 dL_law_539 dL_law_540 (kv := 1) rfl dL_law_541 dL_law_542 hin.1 ?_
  refine r_arg (pc := 543) hc hX hbl hlo dL_law_543 dL_law_544 dL_law_545 (kv := 2) rfl dL_law_546 dL_law_547 hin.2.1 ?_
  refine r_arg (pc := 548) hc hX hbl hlo dL_law_548 dL_law_549 dL_law_550 (kv := 3) rfl dL_law_551 dL_law_552 hin.2.2.1 ?_
  refine r_callV_i (pc := 553) (as := [.int _, .int _, .int _]) hc (c_X6_correct l G H.2.1) kk6 (by decide) rfl mV_X6_correct kM_L_69 ⟨Nat.le_of_ble_eq_true rfl, Nat.le_of_ble_eq_true rfl⟩ ⟨Nat.le_refl 41, Nat.le_refl 916⟩ rfl rfl (Nat.le_of_ble_eq_true rfl) dL_law_553 (fun r34 σ34 h34 => ?_)
  obtain ⟨rfl, rfl⟩ := h34
  exact r_icmp_eq (tgt := 800) hc dL_law_556 (by decide) (fun _ => kk _ H.2.2.2) (fun hne => absurd H.2.2.1 hne)
theorem lc_13 (hc : o_Cx p s m #[.ref b] meth c G cL_law RL 4) (hX : va_X b L xs s s.heap) (hbl : b < s.heap.size) (hlo : gLo G = s.heap.size) {i : Int32} {N : Int} (hin : lIn i L) (h0 : 0 ≤ N) (hN : N ≤ 1000000000) (hI : SI N σ) (kk : ∀ σ' : Sg, SI (N + 1) σ' → o_V p l e room_1 s m #[.ref b] below meth c Q G 41 916 4 σ' 800 (lvL G b i) []) : o_V p l e room_1 s m #[.ref b] below meth c Q G 41 916 4 σ 561 (lvL G b i) [] := by
  have H := op_correction (xs (i + 1).toNatClampNeg) (xs (i + 2).toNatClampNeg) N σ hI
  refine r_aload_n (pc := 561) hc 1 dL_law_561 rfl rfl ?_
  refine r_arg (pc := 562) hc hX hbl hlo dL_law_562 dL_law_563 dL_law_564 (kv := 1) rfl dL_law_565 dL_law_566 hin.1 ?_
  refine r_arg (pc := 567) hc hX hbl hlo dL_law_567 dL_law_568 dL_law_569 (kv := 2) rfl dL_law_570 dL_law_571 hin.2.1 ?_
  refine r_callV_i (pc := 572) (as := [.int _, .int _]) hc (c_X5_correction l G H.1) kk5 (by decide) rfl mV_X5_correction kM_L_70 ⟨Nat.le_of_ble_eq_true rfl, Nat.le_of_ble_eq_true rfl⟩ ⟨Nat.le_refl 41, Nat.le_refl 916⟩ rfl rfl (Nat.le_of_ble_eq_true rfl) dL_law_572 (fun r0 σ0 h0 => ?_)
  obtain ⟨rfl, rfl⟩ := h0
  refine r_aload_n (pc := 575) hc 2 dL_law_575 rfl rfl ?_
  refine r_arg (pc := 576) hc hX hbl hlo dL_law_576 dL_law_577 dL_law_578 (kv := 1) rfl dL_law_579 dL_law_580 hin.1 ?_
  refine r_arg (pc := 581) hc hX hbl hlo dL_law_581 dL_law_582 dL_law_583 (kv := 2) rfl dL_law_584 dL_law_585 hin.2.1 ?_
  refine r_callV_i (pc := 586) (as := [.int _, .int _]) hc (c_X6_correction l G H.2.1) kk6 (by decide) rfl mV_X6_correction kM_L_73 ⟨Nat.le_of_ble_eq_true rfl, Nat.le_of_ble_eq_true rfl⟩ ⟨Nat.le_refl 41, Nat.le_refl 916⟩ rfl rfl (Nat.le_of_ble_eq_true rfl) dL_law_586 (fun r34 σ34 h34 => ?_)
  obtain ⟨rfl, rfl⟩ := h34
  exact r_icmp_eq (tgt := 800) hc dL_law_589 (by decide) (fun _ => kk _ H.2.2.2) (fun hne => absurd H.2.2.1 hne)
theorem lc_14 (hc : o_Cx p s m #[.ref b] meth c G cL_law RL 4) (hX : va_X b L xs s s.heap) (hbl : b < s.heap.size) (hlo : gLo G = s.heap.size) {i : Int32} {N : Int} (hin : lIn i L) (h0 : 0 ≤ N) (hN : N ≤ 1000000000) (hI : SI N σ) (kk : ∀ σ' : Sg, SI (N + 1) σ' → o_V p l e room_1 s m #[.ref b] below meth c Q G 41 916 4 σ' 800 (lvL G b i) []) : o_V p l e room_1 s m #[.ref b] below meth c Q G 41 916 4 σ 594 (lvL G b i) [] := by
  have H := op_learn  N σ hI
  refine r_aload_n (pc := 594) hc 1 dL_law_594 rfl rfl ?_
  refine r_callV_i (pc := 595) (as := []) hc (c_X5_learn l G H.1) kk5 (by decide) rfl mV_X5_learn kM_L_74 ⟨Nat.le_of_ble_eq_true rfl, Nat.le_of_ble_eq_true rfl⟩ ⟨Nat.le_refl 41, Nat.le_refl 916⟩ rfl rfl (Nat.le_of_ble_eq_true rfl) dL_law_595 (fun r0 σ0 h0 => ?_)
  obtain ⟨rfl, rfl⟩ := h0
  refine r_aload_n (pc := 598) hc 2 dL_law_598 rfl rfl ?_
  refine r_callV_i (pc := 599) (as := []) hc (c_X6_learn l G H.2.1) kk6 (by decide) rfl mV_X6_learn kM_L_77 ⟨Nat.le_of_ble_eq_true rfl, Nat.le_of_ble_eq_true rfl⟩ ⟨Nat.le_refl 41, Nat.le_refl 916⟩ rfl rfl (Nat.le_of_ble_eq_true rfl) dL_law_599 (fun r34 σ34 h34 => ?_)
  obtain ⟨rfl, rfl⟩ := h34
  exact r_icmp_eq (tgt := 800) hc dL_law_602 (by decide) (fun _ => kk _ H.2.2.2) (fun hne => absurd H.2.2.1 hne)
theorem lc_15 (hc : o_Cx p s m #[.ref b] meth c G cL_law RL 4) (hX : va_X b L xs s s.heap) (hbl : b < s.heap.size) (hlo : gLo G = s.heap.size) {i : Int32} {N : Int} (hin : lIn i L) (h0 : 0 ≤ N) (hN : N ≤ 1000000000) (hI : SI N σ) (kk : ∀ σ' : Sg, SI (N + 1) σ' → o_V p l e room_1 s m #[.ref b] below meth c Q G 41 916 4 σ' 800 (lvL G b i) []) : o_V p l e room_1 s m #[.ref b] below meth c Q G 41 916 4 σ 607 (lvL G b i) [] := by
  have H := op_look (xs (i + 1).toNatClampNeg) N σ hI
  refine r_aload_n (pc := 607) hc 1 dL_law_607 rfl rfl ?_
  refine r_arg (pc := 608) hc hX hbl hlo dL_law_608 dL_law_609 dL_law_610 (kv := 1) rfl dL_law_611 dL_law_612 hin.1 ?_
  refine r_callV_i (pc := 613) (as := [.int _]) hc (c_X5_look l G H.1) kk5 (by decide) rfl mV_X5_look kM_L_78 ⟨Nat.le_of_ble_eq_true rfl, Nat.le_of_ble_eq_true rfl⟩ ⟨Nat.le_refl 41, Nat.le_refl 916⟩ rfl rfl (Nat.le_of_ble_eq_true rfl) dL_law_613 (fun r0 σ0 h0 => ?_)
  obtain ⟨rfl, rfl⟩ := h0
  refine r_aload_n (pc := 616) hc 2 dL_law_616 rfl rfl ?_
  refine r_arg (pc := 617) hc hX hbl hlo dL_law_617 dL_law_618 dL_law_619 (kv := 1) rfl dL_law_620 dL_law_621 hin.1 ?_
  refine r_callV_i (pc := 622) (as := [.int _]) hc (c_X6_look l G H.2.1) kk6 (by decide) rfl mV_X6_look kM_L_81 ⟨Nat.le_of_ble_eq_true rfl, Nat.le_of_ble_eq_true rfl⟩ ⟨Nat.le_refl 41, Nat.le_refl 916⟩ rfl rfl (Nat.le_of_ble_eq_true rfl) dL_law_622 (fun r34 σ34 h34 => ?_)
  obtain ⟨rfl, rfl⟩ := h34
  exact r_icmp_eq (tgt := 800) hc dL_law_625 (by decide) (fun _ => kk _ H.2.2.2) (fun hne => absurd H.2.2.1 hne)
theorem lc_16 (hc : o_Cx p s m #[.ref b] meth c G cL_law RL 4) (hX : va_X b L xs s s.heap) (hbl : b < s.heap.size) (hlo : gLo G = s.heap.size) {i : Int32} {N : Int} (hin : lIn i L) (h0 : 0 ≤ N) (hN : N ≤ 1000000000) (hI : SI N σ) (kk : ∀ σ' : Sg, SI (N + 1) σ' → o_V p l e room_1 s m #[.ref b] below meth c Q G 41 916 4 σ' 800 (lvL G b i) []) : o_V p l e room_1 s m #[.ref b] below meth c Q G 41 916 4 σ 630 (lvL G b i) [] := by
  have H := op_survey (xs (i + 1).toNatClampNeg) (xs (i + 2).toNatClampNeg) N σ hI
  refine r_aload_n (pc := 630) hc 1 dL_law_630 rfl rfl ?_
  refine r_arg (pc := 631) hc hX hbl hlo dL_law_631 dL_law_632 dL_law_633 (kv := 1) rfl dL_law_634 dL_law_635 hin.1 ?_
  refine r_arg (pc := 636) hc hX hbl hlo dL_law_636 dL_law_637 dL_law_638 (kv := 2) rfl dL_law_639 dL_law_640 hin.2.1 ?_
  refine r_callV_i (pc := 641) (as := [.int _, .int _]) hc (c_X5_survey l G H.1) kk5 (by decide) rfl mV_X5_survey kM_L_82 ⟨Nat.le_of_ble_eq_true rfl, Nat.le_of_ble_eq_true rfl⟩ ⟨Nat.le_refl 41, Nat.le_refl 916⟩ rfl rfl (Nat.le_of_ble_eq_true rfl) dL_law_641 (fun r0 σ0 h0 => ?_)
  obtain ⟨rfl, rfl⟩ := h0
  refine r_aload_n (pc := 644) hc 2 dL_law_644 rfl rfl ?_
  refine r_arg (pc := 645) hc hX hbl hlo dL_law_645 dL_law_646 dL_law_647 (kv := 1) rfl dL_law_648 dL_law_649 hin.1 ?_
  refine r_arg (pc := 650) hc hX hbl hlo dL_law_650 dL_law_651 dL_law_652 (kv := 2) rfl dL_law_653 dL_law_654 hin.2.1 ?_
  refine r_callV_i (pc := 655) (as := [.int _, .int _]) hc (c_X6_survey l G H.2.1) kk6 (by decide) rfl mV_X6_survey kM_L_85 ⟨Nat.le_of_ble_eq_true rfl, Nat.le_of_ble_eq_true rfl⟩ ⟨Nat.le_refl 41, Nat.le_refl 916⟩ rfl rfl (Nat.le_of_ble_eq_true rfl) dL_law_655 (fun r34 σ34 h34 => ?_)
  obtain ⟨rfl, rfl⟩ := h34
  exact r_icmp_eq (tgt := 800) hc dL_law_658 (by decide) (fun _ => kk _ H.2.2.2) (fun hne => absurd H.2.2.1 hne)
theorem lc_17 (hc : o_Cx p s m #[.ref b] meth c G cL_law RL 4) (hX : va_X b L xs s s.heap) (hbl : b < s.heap.size) (hlo : gLo G = s.heap.size) {i : Int32} {N : Int} (hin : lIn i L) (h0 : 0 ≤ N) (hN : N ≤ 1000000000) (hI : SI N σ) (kk : ∀ σ' : Sg, SI (N + 1) σ' → o_V p l e room_1 s m #[.ref b] below meth c Q G 41 916 4 σ' 800 (lvL G b i) []) : o_V p l e room_1 s m #[.ref b] below meth c Q G 41 916 4 σ 663 (lvL G b i) [] := by
  have H := op_poor  N σ hI
  refine r_aload_n (pc := 663) hc 1 dL_law_663 rfl rfl ?_
  refine r_callV_i (pc := 664) (as := []) hc (c_X5_poor l G H.1) kk5 (by decide) rfl mV_X5_poor kM_L_86 ⟨Nat.le_of_ble_eq_true rfl, Nat.le_of_ble_eq_true rfl⟩ ⟨Nat.le_refl 41, Nat.le_refl 916⟩ rfl rfl (Nat.le_of_ble_eq_true rfl) dL_law_664 (fun r0 σ0 h0 => ?_)
  obtain ⟨rfl, rfl⟩ := h0
  refine r_aload_n (pc := 667) hc 2 dL_law_667 rfl rfl ?_
  refine r_callV_i (pc := 668) (as := []) hc (c_X6_poor l G H.2.1) kk6 (by decide) rfl mV_X6_poor kM_L_89 ⟨Nat.le_of_ble_eq_true rfl, Nat.le_of_ble_eq_true rfl⟩ ⟨Nat.le_refl 41, Nat.le_refl 916⟩ rfl rfl (Nat.le_of_ble_eq_true rfl) dL_law_668 (fun r34 σ34 h34 => ?_)
  obtain ⟨rfl, rfl⟩ := h34
  exact r_icmp_eq (tgt := 800) hc dL_law_671 (by decide) (fun _ => kk _ H.2.2.2) (fun hne => absurd H.2.2.1 hne)
theorem lc_18 (hc : o_Cx p s m #[.ref b] meth c G cL_law RL 4) (hX : va_X b L xs s s.heap) (hbl : b < s.heap.size) (hlo : gLo G = s.heap.size) {i : Int32} {N : Int} (hin : lIn i L) (h0 : 0 ≤ N) (hN : N ≤ 1000000000) (hI : SI N σ) (kk : ∀ σ' : Sg, SI (N + 1) σ' → o_V p l e room_1 s m #[.ref b] below meth c Q G 41 916 4 σ' 800 (lvL G b i) []) : o_V p l e room_1 s m #[.ref b] below meth c Q G 41 916 4 σ 676 (lvL G b i) [] := by
  have H := op_sample  N h0 hN σ hI
  refine r_aload_n (pc := 676) hc 1 dL_law_676 rfl rfl ?_
  refine r_callV_i (pc := 677) (as := []) hc (c_X5_sample l G H.1) kk5 (by decide) rfl mV_X5_sample kM_L_90 ⟨Nat.le_of_ble_eq_true rfl, Nat.le_of_ble_eq_true rfl⟩ ⟨Nat.le_refl 41, Nat.le_refl 916⟩ rfl rfl (Nat.le_of_ble_eq_true rfl) dL_law_677 (fun r0 σ0 h0 => ?_)
  obtain ⟨rfl, rfl⟩ := h0
  refine r_aload_n (pc := 680) hc 2 dL_law_680 rfl rfl ?_
  refine r_callV_i (pc := 681) (as := []) hc (c_X6_sample l G H.2.1) kk6 (by decide) rfl mV_X6_sample kM_L_93 ⟨Nat.le_of_ble_eq_true rfl, Nat.le_of_ble_eq_true rfl⟩ ⟨Nat.le_refl 41, Nat.le_refl 916⟩ rfl rfl (Nat.le_of_ble_eq_true rfl) dL_law_681 (fun r34 σ34 h34 => ?_)
  obtain ⟨rfl, rfl⟩ := h34
  exact r_icmp_eq (tgt := 800) hc dL_law_684 (by decide) (fun _ => kk _ H.2.2.2) (fun hne => absurd H.2.2.1 hne)
theorem lc_19 (hc : o_Cx p s m #[.ref b] meth c G cL_law RL 4) (hX : va_X b L xs s s.heap) (hbl : b < s.heap.size) (hlo : gLo G = s.heap.size) {i : Int32} {N : Int} (hin : lIn i L) (h0 : 0 ≤ N) (hN : N ≤ 1000000000) (hI : SI N σ) (kk : ∀ σ' : Sg, SI (N + 1) σ' → o_V p l e room_1 s m #[.ref b] below meth c Q G 41 916 4 σ' 800 (lvL G b i) []) : o_V p l e room_1 s m #[.ref b] below meth c Q G 41 916 4 σ 689 (lvL G b i) [] := by
  have H := op_reason  N hN σ hI
  refine r_aload_n (pc := 689) hc 1 dL_law_689 rfl rfl ?_
  refine r_callV_i (pc := 690) (as := []) hc (c_X5_reason l G H.1) kk5 (by decide) rfl mV_X5_reason kM_L_94 ⟨Nat.le_of_ble_eq_true rfl, Nat.le_of_ble_eq_true rfl⟩ ⟨Nat.le_refl 41, Nat.le_refl 916⟩ rfl rfl (Nat.le_of_ble_eq_true rfl) dL_law_690 (fun r0 σ0 h0 => ?_)
  obtain ⟨rfl, rfl⟩ := h0
  refine r_aload_n (pc := 693) hc 2 dL_law_693 rfl rfl ?_
  refine r_callV_i (pc := 694) (as := []) hc (c_X6_reason l G H.2.1) kk6 (by decide) rfl mV_X6_reason kM_L_97 ⟨Nat.le_of_ble_eq_true rfl, Nat.le_of_ble_eq_true rfl⟩ ⟨Nat.le_refl 41, Nat.le_refl 916⟩ rfl rfl (Nat.le_of_ble_eq_true rfl) dL_law_694 (fun r34 σ34 h34 => ?_)
  obtain ⟨rfl, rfl⟩ := h34
  exact r_icmp_eq (tgt := 800) hc dL_law_697 (by decide) (fun _ => kk _ H.2.2.2) (fun hne => absurd H.2.2.1 hne)
theorem lc_20 (hc : o_Cx p s m #[.ref b] meth c G cL_law RL 4) (hX : va_X b L xs s s.heap) (hbl : b < s.heap.size) (hlo : gLo G = s.heap.size) {i : Int32} {N : Int} (hin : lIn i L) (h0 : 0 ≤ N) (hN : N ≤ 1000000000) (hI : SI N σ) (kk : ∀ σ' : Sg, SI (N + 1) σ' → o_V p l e room_1 s m #[.ref b] below meth c Q G 41 916 4 σ' 800 (lvL G b i) []) : o_V p l e room_1 s m #[.ref b] below meth c Q G 41 916 4 σ 702 (lvL G b i) [] := by
  have H := op_forget  N h0 σ hI
  refine r_aload_n (pc := 702) hc 1 dL_law_702 rfl rfl ?_
  refine r_callV_i (pc := 703) (as := []) hc (c_X5_forget l G H.1) kk5 (by decide) rfl mV_X5_forget kM_L_98 ⟨Nat.le_of_ble_eq_true rfl, Nat.le_of_ble_eq_true rfl⟩ ⟨Nat.le_refl 41, Nat.le_refl 916⟩ rfl rfl (Nat.le_of_ble_eq_true rfl) dL_law_703 (fun r0 σ0 h0 => ?_)
  obtain ⟨rfl, rfl⟩ := h0
  refine r_aload_n (pc := 706) hc 2 dL_law_706 rfl rfl ?_
  refine r_callV_i (pc := 707) (as := []) hc (c_X6_forget l G H.2.1) kk6 (by decide) rfl mV_X6_forget kM_L_101 ⟨Nat.le_of_ble_eq_true rfl, Nat.le_of_ble_eq_true rfl⟩ ⟨Nat.le_refl 41, Nat.le_refl 916⟩ rfl rfl (Nat.le_of_ble_eq_true rfl) dL_law_707 (fun r34 σ34 h34 => ?_)
  obtain ⟨rfl, rfl⟩ := h34
  exact r_icmp_eq (tgt := 800) hc dL_law_710 (by decide) (fun _ => kk _ H.2.2.2) (fun hne => absurd H.2.2.1 hne)
theorem lc_21 (hc : o_Cx p s m #[.ref b] meth c G cL_law RL 4) (hX : va_X b L xs s s.heap) (hbl : b < s.heap.size) (hlo : gLo G = s.heap.size) {i : Int32} {N : Int} (hin : lIn i L) (h0 : 0 ≤ N) (hN : N ≤ 1000000000) (hI : SI N σ) (kk : ∀ σ' : Sg, SI (N + 1) σ' → o_V p l e room_1 s m #[.ref b] below meth c Q G 41 916 4 σ' 800 (lvL G b i) []) : o_V p l e room_1 s m #[.ref b] below meth c Q G 41 916 4 σ 715 (lvL G b i) [] := by
  have H := op_apart  N σ hI
  refine r_aload_n (pc := 715) hc 1 dL_law_715 rfl rfl ?_
  refine r_callV_i (pc := 716) (as := []) hc (c_X5_apart l G H.1) kk5 (by decide) rfl mV_X5_apart kM_L_102 ⟨Nat.le_of_ble_eq_true rfl, Nat.le_of_ble_eq_true rfl⟩ ⟨Nat.le_refl 41, Nat.le_refl 916⟩ rfl rfl (Nat.le_of_ble_eq_true rfl) dL_law_716 (fun r0 σ0 h0 => ?_)
  obtain ⟨rfl, rfl⟩ := h0
  refine r_aload_n (pc := 719) hc 2 dL_law_719 rfl rfl ?_
  refine r_callV_i (pc := 720) (as := []) hc (c_X6_apart l G H.2.1) kk6 (by decide) rfl mV_X6_apart kM_L_105 ⟨Nat.le_of_ble_eq_true rfl, Nat.le_of_ble_eq_true rfl⟩ ⟨Nat.le_refl 41, Nat.le_refl 916⟩ rfl rfl (Nat.le_of_ble_eq_true rfl) dL_law_720 (fun r34 σ34 h34 => ?_)
  obtain ⟨rfl, rfl⟩ := h34
  exact r_icmp_eq (tgt := 800) hc dL_law_723 (by decide) (fun _ => kk _ H.2.2.2) (fun hne => absurd H.2.2.1 hne)
theorem lc_22 (hc : o_Cx p s m #[.ref b] meth c G cL_law RL 4) (hX : va_X b L xs s s.heap) (hbl : b < s.heap.size) (hlo : gLo G = s.heap.size) {i : Int32} {N : Int} (hin : lIn i L) (h0 : 0 ≤ N) (hN : N ≤ 1000000000) (hI : SI N σ) (kk : ∀ σ' : Sg, SI (N + 1) σ' → o_V p l e room_1 s m #[.ref b] below meth c Q G 41 916 4 σ' 800 (lvL G b i) []) : o_V p l e room_1 s m #[.ref b] below meth c Q G 41 916 4 σ 728 (lvL G b i) [] := by
  have H := op_type (xs (i + 1).toNatClampNeg) N σ hI
  refine r_aload_n (pc := 728) hc 1 dL_law_728 rfl rfl ?_
  refine r_arg (pc := 729) hc hX hbl hlo dL_law_729 dL_law_730 dL_law_731 (kv := 1) rfl dL_law_732 dL_law_733 hin.1 ?_
  refine r_callV_i (pc := 734) (as := [.int _]) hc (c_X5_type l G H.1) kk5 (by decide) rfl mV_X5_type kM_L_106 ⟨Nat.le_of_ble_eq_true rfl, Nat.le_of_ble_eq_true rfl⟩ ⟨Nat.le_refl 41, Nat.le_refl 916⟩ rfl rfl (Nat.le_of_ble_eq_true rfl) dL_law_734 (fun r0 σ0 h0 => ?_)
  obtain ⟨rfl, rfl⟩ := h0
  refine r_aload_n (pc := 737) hc 2 dL_law_737 rfl rfl ?_
  refine r_arg (pc := 738) hc hX hbl hlo dL_law_738 dL_law_739 dL_law_740 (kv := 1) rfl dL_law_741 dL_law_742 hin.1 ?_
  refine r_callV_i (pc := 743) (as := [.int _]) hc (c_X6_type l G H.2.1) kk6 (by decide) rfl mV_X6_type kM_L_109 ⟨Nat.le_of_ble_eq_true rfl, Nat.le_of_ble_eq_true rfl⟩ ⟨Nat.le_refl 41, Nat.le_refl 916⟩ rfl rfl (Nat.le_of_ble_eq_true rfl) dL_law_743 (fun r34 σ34 h34 => ?_)
  obtain ⟨rfl, rfl⟩ := h34
  exact r_icmp_eq (tgt := 800) hc dL_law_746 (by decide) (fun _ => kk _ H.2.2.2) (fun hne => absurd H.2.2.1 hne)
theorem lc_23 (hc : o_Cx p s m #[.ref b] meth c G cL_law RL 4) (hX : va_X b L xs s s.heap) (hbl : b < s.heap.size) (hlo : gLo G = s.heap.size) {i : Int32} {N : Int} (hin : lIn i L) (h0 : 0 ≤ N) (hN : N ≤ 1000000000) (hI : SI N σ) (kk : ∀ σ' : Sg, SI (N + 1) σ' → o_V p l e room_1 s m #[.ref b] below meth c Q G 41 916 4 σ' 800 (lvL G b i) []) : o_V p l e room_1 s m #[.ref b] below meth c Q G 41 916 4 σ 751 (lvL G b i) [] := by
  have H := op_clearText  N σ hI
  refine r_aload_n (pc := 751) hc 1 dL_law_751 rfl rfl ?_
  refine r_callV_i (pc := 752) (as := []) hc (c_X5_clearText l G H.1) kk5 (by decide) rfl mV_X5_clearText kM_L_110 ⟨Nat.le_of_ble_eq_true rfl, Nat.le_of_ble_eq_true rfl⟩ ⟨Nat.le_refl 41, Nat.le_refl 916⟩ rfl rfl (Nat.le_of_ble_eq_true rfl) dL_law_752 (fun r0 σ0 h0 => ?_)
  obtain ⟨rfl, rfl⟩ := h0
  refine r_aload_n (pc := 755) hc 2 dL_law_755 rfl rfl ?_
  refine r_callV_i (pc := 756) (as := []) hc (c_X6_clearText l G H.2.1) kk6 (by decide) rfl mV_X6_clearText kM_L_113 ⟨Nat.le_of_ble_eq_true rfl, Nat.le_of_ble_eq_true rfl⟩ ⟨Nat.le_refl 41, Nat.le_refl 916⟩ rfl rfl (Nat.le_of_ble_eq_true rfl) dL_law_756 (fun r34 σ34 h34 => ?_)
  obtain ⟨rfl, rfl⟩ := h34
  exact r_icmp_eq (tgt := 800) hc dL_law_759 (by decide) (fun _ => kk _ H.2.2.2) (fun hne => absurd H.2.2.1 hne)
theorem lc_24 (hc : o_Cx p s m #[.ref b] meth c G cL_law RL 4) (hX : va_X b L xs s s.heap) (hbl : b < s.heap.size) (hlo : gLo G = s.heap.size) {i : Int32} {N : Int} (hin : lIn i L) (h0 : 0 ≤ N) (hN : N ≤ 1000000000) (hI : SI N σ) (kk : ∀ σ' : Sg, SI (N + 1) σ' → o_V p l e room_1 s m #[.ref b] below meth c Q G 41 916 4 σ' 800 (lvL G b i) []) : o_V p l e room_1 s m #[.ref b] below meth c Q G 41 916 4 σ 764 (lvL G b i) [] := by
  have H := op_fault (xs (i + 1).toNatClampNeg) N σ hI
  refine r_aload_n (pc := 764) hc 1 dL_law_764 rfl rfl ?_
  refine r_arg (pc := 765) hc hX hbl hlo dL_law_765 dL_law_766 dL_law_767 (kv := 1) rfl dL_law_768 dL_law_769 hin.1 ?_
  refine r_callV_i (pc := 770) (as := [.int _]) hc (c_X5_fault l G H.1) kk5 (by decide) rfl mV_X5_fault kM_L_114 ⟨Nat.le_of_ble_eq_true rfl, Nat.le_of_ble_eq_true rfl⟩ ⟨Nat.le_refl 41, Nat.le_refl 916⟩ rfl rfl (Nat.le_of_ble_eq_true rfl) dL_law_770 (fun r0 σ0 h0 => ?_)
  obtain ⟨rfl, rfl⟩ := h0
  refine r_aload_n (pc := 773) hc 2 dL_law_773 rfl rfl ?_
  refine r_arg (pc := 774) hc hX hbl hlo dL_law_774 dL_law_775 dL_law_776 (kv := 1) rfl dL_law_777 dL_law_778 hin.1 ?_
  refine r_callV_i (pc := 779) (as := [.int _]) hc (c_X6_fault l G H.2.1) kk6 (by decide) rfl mV_X6_fault kM_L_117 ⟨Nat.le_of_ble_eq_true rfl, Nat.le_of_ble_eq_true rfl⟩ ⟨Nat.le_refl 41, Nat.le_refl 916⟩ rfl rfl (Nat.le_of_ble_eq_true rfl) dL_law_779 (fun r34 σ34 h34 => ?_)
  obtain ⟨rfl, rfl⟩ := h34
  exact r_icmp_eq (tgt := 800) hc dL_law_782 (by decide) (fun _ => kk _ H.2.2.2) (fun hne => absurd H.2.2.1 hne)
theorem lc_25 (hc : o_Cx p s m #[.ref b] meth c G cL_law RL 4) (hX : va_X b L xs s s.heap) (hbl : b < s.heap.size) (hlo : gLo G = s.heap.size) {i : Int32} {N : Int} (hin : lIn i L) (h0 : 0 ≤ N) (hN : N ≤ 1000000000) (hI : SI N σ) (kk : ∀ σ' : Sg, SI (N + 1) σ' → o_V p l e room_1 s m #[.ref b] below meth c Q G 41 916 4 σ' 800 (lvL G b i) []) : o_V p l e room_1 s m #[.ref b] below meth c Q G 41 916 4 σ 787 (lvL G b i) [] := by
  have H := op_load  N σ hI
  refine r_aload_n (pc := 787) hc 1 dL_law_787 rfl rfl ?_
  refine r_callV_i (pc := 788) (as := []) hc (c_X5_load l G H.1) kk5 (by decide) rfl mV_X5_load kM_L_118 ⟨Nat.le_of_ble_eq_true rfl, Nat.le_of_ble_eq_true rfl⟩ ⟨Nat.le_refl 41, Nat.le_refl 916⟩ rfl rfl (Nat.le_of_ble_eq_true rfl) dL_law_788 (fun r0 σ0 h0 => ?_)
  obtain ⟨rfl, rfl⟩ := h0
  refine r_aload_n (pc := 791) hc 2 dL_law_791 rfl rfl ?_
  refine r_callV_i (pc := 792) (as := []) hc (c_X6_load l G H.2.1) kk6 (by decide) rfl mV_X6_load kM_L_121 ⟨Nat.le_of_ble_eq_true rfl, Nat.le_of_ble_eq_true rfl⟩ ⟨Nat.le_refl 41, Nat.le_refl 916⟩ rfl rfl (Nat.le_of_ble_eq_true rfl) dL_law_792 (fun r34 σ34 h34 => ?_)
  obtain ⟨rfl, rfl⟩ := h34
  exact r_icmp_eq (tgt := 800) hc dL_law_795 (by decide) (fun _ => kk _ H.2.2.2) (fun hne => absurd H.2.2.1 hne)
end LAW
