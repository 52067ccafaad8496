set_option linter.all false
/-! rows for long numbers, for calls that make cells, for a row of the law's own -/
def o_Cl (l : Launch) (G : Gt) (y : MethodName) (bytes : ByteArray) (maxL : Nat) (ret : Option FieldType) (fr lc : Nat) (as : List Value) (σ : Sg) (post : Int64 → Sg → Prop) : Prop :=
  Met l y (Cond.code y bytes maxL ret :: WS) { frames := fr, cells := 0, slots := 0, locals := lc } (o_Pc G as σ) (va_Ql post (fun σ' t => o_W G σ' t.heap) (o_A G)) 0 0 (o_A G)
def o_Cim (l : Launch) (G : Gt) (y : MethodName) (bytes : ByteArray) (maxL : Nat) (ret : Option FieldType) (fr lc mc ms : Nat) (as : List Value) (σ : Sg) (post : Int32 → Sg → Prop) : Prop :=
  Met l y (Cond.code y bytes maxL ret :: WS) { frames := fr, cells := mc, slots := ms, locals := lc } (o_Pc G as σ) (va_Qi post (fun σ' t => o_W G σ' t.heap) (o_A G)) mc ms (o_A G)
section ROWS3
variable {p : Program} {l : Launch} {e : Env} {R : Room} {s : State} {m : MethodId} {args : Array Value} {below : List Frame} {meth : Method} {c : Code} {Q : State → Prop} {G : Gt} {kc ks nL : Nat} {σ : Sg} {pc : Nat} {lv lv' : List (Nat × Value)} {st : List Value} {cc : ByteArray} {own : String}
theorem r_ishr (hc : o_Cx p s m args meth c G cc own nL) {x y : Int32} (hd : decode cc pc = .ok (.ishr, 1))
    (kk : o_V p l e R s m args below meth c Q G kc ks nL σ (pc + 1) lv (.int (x >>> (y &&& 31)) :: st)) : o_V p l e R s m args below meth c Q G kc ks nL σ pc lv (.int y :: .int x :: st) :=
  fun H locs ls hP hS hl => lv_ishr hc.1 hc.2.1 hd (kk H locs ls hP hS hl)
theorem r_ladd (hc : o_Cx p s m args meth c G cc own nL) {x y : Int64} (hd : decode cc pc = .ok (.ladd, 1))
    (kk : o_V p l e R s m args below meth c Q G kc ks nL σ (pc + 1) lv (.long (x + y) :: st)) : o_V p l e R s m args below meth c Q G kc ks nL σ pc lv (.long y :: .long x :: st) :=
  fun H locs ls hP hS hl => lv_ladd hc.1 hc.2.1 hd (kk H locs ls hP hS hl)
theorem r_lmul (hc : o_Cx p s m args meth c G cc own nL) {x y : Int64} (hd : decode cc pc = .ok (.lmul, 1))
    (kk : o_V p l e R s m args below meth c Q G kc ks nL σ (pc + 1) lv (.long (x * y) :: st)) : o_V p l e R s m args below meth c Q G kc ks nL σ pc lv (.long y :: .long x :: st) :=
  fun H locs ls hP hS hl => lv_lmul hc.1 hc.2.1 hd (kk H locs ls hP hS hl)
theorem r_i2l (hc : o_Cx p s m args meth c G cc own nL) {x : Int32} (hd : decode cc pc = .ok (.i2l, 1))
    (kk : o_V p l e R s m args below meth c Q G kc ks nL σ (pc + 1) lv (.long (Int32.toInt64 x) :: st)) : o_V p l e R s m args below meth c Q G kc ks nL σ pc lv (.int x :: st) :=
  fun H locs ls hP hS hl => lv_i2l hc.1 hc.2.1 hd rfl (kk H locs ls hP hS hl)
theorem r_lcmp (hc : o_Cx p s m args meth c G cc own nL) {x y : Int64} (hd : decode cc pc = .ok (.lcmp, 1))
    (kk : o_V p l e R s m args below meth c Q G kc ks nL σ (pc + 1) lv (.int (lg_cmp x y) :: st)) : o_V p l e R s m args below meth c Q G kc ks nL σ pc lv (.long y :: .long x :: st) :=
  fun H locs ls hP hS hl => W.lcmp hc.1 hc.2.1 hd (kk H locs ls hP hS hl)
theorem r_ldc2 (hc : o_Cx p s m args meth c G cc own nL) {idx : Nat} {v : Int64} (hw : Cond.constantLong own idx v ∈ WS) (hd : decode cc pc = .ok (.ldc2_w idx, 3))
    (kk : o_V p l e R s m args below meth c Q G kc ks nL σ (pc + 3) lv (.long v :: st)) : o_V p l e R s m args below meth c Q G kc ks nL σ pc lv st :=
  fun H locs ls hP hS hl => lv_ldc2 hc.1 hc.2.1 hc.2.2.2.1 (hc.2.2.2.2.1 _ hw) hd (kk H locs ls hP hS hl)
theorem r_lload_n (hc : o_Cx p s m args meth c G cc own nL) {k : Fin 4} {i : Nat} {x : Int64} (q : Nat) (hd : decode cc pc = .ok (.lload_n k, 1)) (hi : (k : Nat) = i) (hq : lv[q]? = some (i, .long x))
    (kk : o_V p l e R s m args below meth c Q G kc ks nL σ (pc + 1) lv (.long x :: st)) : o_V p l e R s m args below meth c Q G kc ks nL σ pc lv st :=
  fun H locs ls hP hS hl => lv_lload_n hc.1 hc.2.1 hd hi (lv_at hl q hq) (kk H locs ls hP hS hl)
theorem r_lload (hc : o_Cx p s m args meth c G cc own nL) {i : Nat} {x : Int64} (q : Nat) (hd : decode cc pc = .ok (.lload i, 2)) (hq : lv[q]? = some (i, .long x))
    (kk : o_V p l e R s m args below meth c Q G kc ks nL σ (pc + 2) lv (.long x :: st)) : o_V p l e R s m args below meth c Q G kc ks nL σ pc lv st :=
  fun H locs ls hP hS hl => lv_lload hc.1 hc.2.1 hd (lv_at hl q hq) (kk H locs ls hP hS hl)
theorem r_lstore_n (hc : o_Cx p s m args meth c G cc own nL) {k : Fin 4} {i : Nat} {x : Int64} (hd : decode cc pc = .ok (.lstore_n k, 1)) (hi : (k : Nat) = i) (hn : i + 1 < nL) (hl' : (i, Value.long x) :: lv.filter (fun q => !(q.1 == i) && (!(q.1 == i + 1) && !(q.1 + 1 == i && q.2.category == 2))) = lv')
    (kk : o_V p l e R s m args below meth c Q G kc ks nL σ (pc + 1) lv' st) : o_V p l e R s m args below meth c Q G kc ks nL σ pc lv (.long x :: st) :=
  fun H locs ls hP hS hl => lv_lstore_n hc.1 hc.2.1 hd hi hl hn hl' (fun ls2 h2 => kk H locs ls2 hP hS h2)
theorem r_lstore (hc : o_Cx p s m args meth c G cc own nL) {i : Nat} {x : Int64} (hd : decode cc pc = .ok (.lstore i, 2)) (hn : i + 1 < nL) (hl' : (i, Value.long x) :: lv.filter (fun q => !(q.1 == i) && (!(q.1 == i + 1) && !(q.1 + 1 == i && q.2.category == 2))) = lv')
    (kk : o_V p l e R s m args below meth c Q G kc ks nL σ (pc + 2) lv' st) : o_V p l e R s m args below meth c Q G kc ks nL σ pc lv (.long x :: st) :=
  fun H locs ls hP hS hl => lv_lstore hc.1 hc.2.1 hd hl hn hl' (fun ls2 h2 => kk H locs ls2 hP hS h2)
theorem r_lret (hc : o_Cx p s m args meth c G cc own nL) {post : Int64 → Sg → Prop} {v : Int64} (hr : meth.sig.returnType = some .long) (hd : decode cc pc = .ok (.lreturn, 1)) (hp : post v σ) : o_V p l e R s m args below meth c (MQ below (va_Ql post (fun σ' t => o_W G σ' t.heap) (o_A G)) args s kc ks (o_A G)) G kc ks nL σ pc lv [.long v] :=
  fun H locs ls hP hS hl => W.lret hc.1 hc.2.1 hr (fun t ht hW => ⟨⟨v, σ, rfl, hp, by show o_W G σ t.heap; rw [ht]; exact hP⟩, hS.F ht⟩) hS.2.2 hd hc.2.2.2.2.2.2
theorem o_V.widen {k n : Nat} (h1 : kc ≤ k) (h2 : ks ≤ n) (kk : o_V p l e R s m args below meth c Q G k n nL σ pc lv st) : o_V p l e R s m args below meth c Q G kc ks nL σ pc lv st :=
  fun H locs ls hP hS hl => W.widen h1 h2 (kk H locs ls hP hS hl)
variable {y : MethodName} {bytes : ByteArray} {maxL fr lc mc ms n idx : Nat} {ret : Option FieldType} {as rest stk : List Value}
theorem o_Cl.of {post : Int64 → Sg → Prop} (hy : plainName y.cls = true) (hn : (lg_sl as).length ≤ maxL)
    (body : ∀ (p : Program) (e : Env) (s : State) (m : MethodId) (args : Array Value) (below : List Frame) (meth : Method) (c : Code), o_Cx p s m args meth c G bytes y.cls maxL → meth.sig.returnType = ret → o_V p l e { frames := fr, cells := 0, slots := 0, locals := lc } s m args below meth c (MQ below (va_Ql post (fun σ' t => o_W G σ' t.heap) (o_A G)) args s 0 0 (o_A G)) G 0 0 maxL σ 0 (lv_args 0 as) []) : o_Cl l G y bytes maxL ret fr lc as σ post := by
  refine Met.ofW (cc := bytes) (maxL := maxL) (ret := ret) hy rfl ?_
  intro p e s m args below meth c s₁ B hml hv
  obtain ⟨rfl, hE, hP⟩ := hv
  have hts := atoms_spec (ws := Cond.code y bytes maxL ret :: WS) B.pre
  rw [lg_entry_eq]
  exact body p e s m _ below meth c ⟨B.exec, B.bytes, hml, findClass_of_methodNamed B.named, fun w hw => hts w (List.mem_cons_of_mem _ hw), hE, B.notSynchronized⟩ B.returns s.heap [] _ hP va_S.rf (lv_entry as hn)
theorem o_Cim.of {post : Int32 → Sg → Prop} (hy : plainName y.cls = true) (hn : (lg_sl as).length ≤ maxL)
    (body : ∀ (p : Program) (e : Env) (s : State) (m : MethodId) (args : Array Value) (below : List Frame) (meth : Method) (c : Code), o_Cx p s m args meth c G bytes y.cls maxL → meth.sig.returnType = ret → o_V p l e { frames := fr, cells := mc, slots := ms, locals := lc } s m args below meth c (MQ below (va_Qi post (fun σ' t => o_W G σ' t.heap) (o_A G)) args s mc ms (o_A G)) G 0 0 maxL σ 0 (lv_args 0 as) []) : o_Cim l G y bytes maxL ret fr lc mc ms as σ post := by
  refine Met.ofW (cc := bytes) (maxL := maxL) (ret := ret) hy rfl ?_
  intro p e s m args below meth c s₁ B hml hv
  obtain ⟨rfl, hE, hP⟩ := hv
  have hts := atoms_spec (ws := Cond.code y bytes maxL ret :: WS) B.pre
  rw [lg_entry_eq]
  exact body p e s m _ below meth c ⟨B.exec, B.bytes, hml, findClass_of_methodNamed B.named, fun w hw => hts w (List.mem_cons_of_mem _ hw), hE, B.notSynchronized⟩ B.returns s.heap [] _ hP va_S.rf (lv_entry as hn)
theorem o_cwSm (hc : o_Cx p s m args meth c G cc own nL) (hm : o_MS y bytes maxL ret n) (hw : Cond.methodLink own idx y ∈ WS) (hR : fr + 1 ≤ R.frames ∧ 8 + (maxL + 11) + lc ≤ R.locals) : CallB R s args own idx y bytes maxL ret (Cond.code y bytes maxL ret :: WS) { frames := fr, cells := mc, slots := ms, locals := lc } mc ms n ∧ (Cond.static y).before args s = true :=
  ⟨callB_of n hc.2.2.2.2.1 (o_gi hm.1) rfl rfl rfl (hc.2.2.2.2.1 _ hm.2.2.1) (hc.2.2.2.2.1 _ hw) hm.2.2.2 hR, hc.2.2.2.2.1 _ hm.2.1⟩
theorem r_callS_l (hc : o_Cx p s m args meth c G cc own nL) {post : Int64 → Sg → Prop} (hM : o_Cl l G y bytes maxL ret fr lc as σ post) (hm : o_MS y bytes maxL ret n) (hw : Cond.methodLink own idx y ∈ WS) (hR : fr + 1 ≤ R.frames ∧ 8 + (maxL + 11) + lc ≤ R.locals) (hcs : kc + 0 ≤ R.cells ∧ ks + 0 ≤ R.slots) (hn : as.length = n) (hstk : stk = as.reverse ++ st) (hroom : (st.map fun v => v.category).sum ≤ 8) (hd : decode cc pc = .ok (.invokestatic idx, 3))
    (kk : ∀ (r : Int64) (σ' : Sg), post r σ' → o_V p l e R s m args below meth c Q G kc ks nL σ' (pc + 3) lv (.long r :: st)) : o_V p l e R s m args below meth c Q G kc ks nL σ pc lv stk := by
  intro H locs ls hP hS hl
  exact va_calll (va_runS (g := F0 m pc ls stk) (o_fix hc) hM (o_cwS hc hm hw hR) (o_preS hc hP hS) rfl hn hl.1 hstk (lv_room hroom) hd hcs) hS (fun _ _ h => h) (fun _ h => h) (fun r u t H1 locs1 ht _ hp hB _ _ hS1 => kk r u hp H1 locs1 ls (by rw [← ht]; exact hB) hS1 hl)
theorem r_callS_im (hc : o_Cx p s m args meth c G cc own nL) {post : Int32 → Sg → Prop} (hM : o_Cim l G y bytes maxL ret fr lc mc ms as σ post) (hm : o_MS y bytes maxL ret n) (hw : Cond.methodLink own idx y ∈ WS) (hR : fr + 1 ≤ R.frames ∧ 8 + (maxL + 11) + lc ≤ R.locals) (hcs : kc + mc ≤ R.cells ∧ ks + ms ≤ R.slots) (hn : as.length = n) (hstk : stk = as.reverse ++ st) (hroom : (st.map fun v => v.category).sum ≤ 8) (hd : decode cc pc = .ok (.invokestatic idx, 3))
    (kk : ∀ (r : Int32) (σ' : Sg), post r σ' → o_V p l e R s m args below meth c Q G (kc + mc) (ks + ms) nL σ' (pc + 3) lv (.int r :: st)) : o_V p l e R s m args below meth c Q G kc ks nL σ pc lv stk := by
  intro H locs ls hP hS hl
  exact va_calli (va_runS (g := F0 m pc ls stk) (o_fix hc) hM (o_cwSm hc hm hw hR) (o_preS hc hP hS) rfl hn hl.1 hstk (lv_room hroom) hd hcs) hS (fun _ _ h => h) (fun _ h => h) (fun r u t H1 locs1 ht _ hp hB _ _ hS1 => kk r u hp H1 locs1 ls (by rw [← ht]; exact hB) hS1 hl)
/-- the law's own row: cell 34 -/
def nz (σ : Sg) : Sg := fun i k => if i = 34 then 0 else σ i k
theorem nz_ne {σ : Sg} {i : Nat} (h : i ≠ 34) : nz σ i = σ i := funext fun k => if_neg h
theorem o_nf11 : ∀ i, i < 34 → o_nf (o_kd i) ≤ 11 := by decide +kernel
theorem o_rt_in : ∀ i, i < 34 → ∀ k, k < 11 → ((o_rt i k).all (fun j => decide (j < 34)) || decide (o_nf (o_kd i) ≤ k)) = true := by decide +kernel
theorem o_ce_G {G G1 : Gt} {σ : Sg} {i : Nat} (hi : i < 34) (h : ∀ j, j ≠ 34 → gAd G1 j = gAd G j) (hI : gI G1 = gI G) (hO : gO G1 = gO G) : o_ce G1 σ i = o_ce G σ i := by
  unfold o_ce
  rw [hI, hO]
  split
  · rfl
  · split
    · have e : (fun j => some (gAd G1 (8 + 5 * j))) = (fun j => some (gAd G (8 + 5 * j))) := funext fun j => congrArg some (h _ (by omega))
      rw [e]
    · have e : (List.range (o_nf (o_kd i))).map (o_fv G1 σ i) = (List.range (o_nf (o_kd i))).map (o_fv G σ i) := List.map_congr_left fun k hk => by
        have hk2 := List.mem_range.mp hk
        have h11 := o_nf11 i hi
        have r := o_rt_in i hi k (by omega)
        unfold o_fv
        cases q : o_rt i k with
        | none => rfl
        | some j =>
          rw [q] at r
          have r2 : decide (j < 34) = true := by
            rcases Bool.or_eq_true_iff.mp r with z | z
            · exact z
            · exact absurd (of_decide_eq_true z) (by omega)
          have r3 : j < 34 := of_decide_eq_true r2
          show Value.ref (gAd G1 j) = Value.ref (gAd G j)
          rw [h j (by omega)]
      rw [e]
theorem r_newa (hc : o_Cx p s m args meth c G cc own nL) (hG : gN G = 34) {post : Int32 → Sg → Prop} (hd : decode cc pc = .ok (.newarray .int, 2)) (hcs : 0 + 1 ≤ R.cells ∧ 0 + 3 ≤ R.slots)
    (kk : ∀ G1 : Gt, o_Cx p s m args meth c G1 cc own nL → 34 < gN G1 → (∀ i, i < 34 → gAd G1 i = gAd G i) → o_V p l e R s m args below meth c (MQ below (va_Qi post (fun σ' t => o_W G1 σ' t.heap) (o_A G1)) args s 1 3 (o_A G1)) G1 1 3 nL (nz σ) (pc + 2) lv (.ref (gAd G1 34) :: st)) : o_V p l e R s m args below meth c (MQ below (va_Qi post (fun σ' t => o_W G σ' t.heap) (o_A G)) args s 1 3 (o_A G)) G 0 0 nL σ pc lv (.int 3 :: st) := by
  intro H locs ls hP hS hl
  refine va_newaK (g := F0 m pc ls (.int 3 :: st)) hc.1 hc.2.1 (atype := .int) (hc.2.2.2.2.1 _ kA_int) rfl hd (N := 3) rfl (by decide) rfl (by decide) hcs.1 hcs.2 rfl (fun H1 cA e1 z1 o1 hAr hNm => ?_)
  have hE := hc.2.2.2.2.2.1
  have hcI : cA = gI G := Option.some.inj (hNm.symm.trans (hE.1.2 0 (gI G, .int) rfl).2)
  have lt : ∀ i, i < 34 → gAd G i < H.size := fun i hi => (hP i (by rw [hG]; exact hi)).lt
  obtain ⟨G1, hG1⟩ : ∃ G1 : Gt, G1 = (gLo G, (fun i => if i = 34 then H.size else gAd G i), gD G, gI G, gO G, 35) := ⟨_, rfl⟩
  have a1 : ∀ i, i ≠ 34 → gAd G1 i = gAd G i := fun i hi => by rw [hG1]; exact if_neg hi
  have a34 : gAd G1 34 = H.size := by rw [hG1]; rfl
  have hA : o_A G1 = o_A G := by rw [hG1]; rfl
  have hN : gN G1 = 35 := by rw [hG1]
  have hD : gD G1 = gD G := by rw [hG1]
  have hI : gI G1 = gI G := by rw [hG1]
  have hO : gO G1 = gO G := by rw [hG1]
  have hL : gLo G1 = gLo G := by rw [hG1]
  have hE1 : o_En G1 s := by
    refine ⟨?_, hE.2.1, fun i h1 h2 => ?_, fun i j hi hj he => ?_, fun i => ⟨fun h => by omega, fun h => ?_⟩⟩
    · rw [hD, hI, hO]; exact hE.1
    · rw [a1 i (by omega), hA]; exact hE.2.2.1 i h1 h2
    · rw [hN] at hi hj
      by_cases q1 : i = 34
      · by_cases q2 : j = 34
        · omega
        · rw [q1, a34, a1 j q2] at he
          have := lt j (by omega)
          omega
      · by_cases q2 : j = 34
        · rw [q2, a34, a1 i q1] at he
          have := lt i (by omega)
          omega
        · rw [a1 i q1, a1 j q2] at he
          exact hE.2.2.2.1 i j (by omega) (by omega) he
    · rw [hN] at h
      rw [hL]
      by_cases q1 : i = 34
      · rw [q1, a34]
        have h0 := (hE.2.2.2.2 0).2 (by omega)
        have h1 := lt 0 (by omega)
        omega
      · rw [a1 i q1]
        exact (hE.2.2.2.2 i).2 (by omega)
  have hW1 : o_W G1 (nz σ) H1 := by
    intro i hi
    rw [hN] at hi
    by_cases q1 : i = 34
    · subst q1
      rw [a34, o_ceA rfl, hD, hI]
      have ez : nz σ 34 = fun _ => 0 := funext fun k => if_pos rfl
      rw [ez]
      show H1[H.size]? = some (vp_cell _ _)
      rw [e1, hcI]
      rfl
    · rw [a1 i q1, hD, o_ce_G (by omega) a1 hI hO, o_ce_c (nz_ne q1)]
      exact (hP i (by omega)).kept (o1 _ (lt i (by omega)))
  have hS1 : va_S (o_A G1) s.heap H1 locs := by
    rw [hA]
    exact ⟨Nat.le_trans hS.1 (by omega), fun x h1 h2 => (o1 x (Nat.lt_of_lt_of_le h1 hS.1)).trans (hS.2.1 x h1 h2), hS.2.2⟩
  have kw := kk G1 ⟨hc.1, hc.2.1, hc.2.2.1, hc.2.2.2.1, hc.2.2.2.2.1, hE1, hc.2.2.2.2.2.2⟩ (by omega) (fun i hi => a1 i (by omega)) H1 locs ls hW1 hS1 hl
  rw [a34, hA] at kw
  intro T hT X
  obtain ⟨t, st1, o, q1, q2, ⟨⟨r, u, v1, v2, v3⟩, v4⟩, L, q4⟩ := kw T hT X
  refine ⟨t, st1, o, q1, q2, ⟨⟨r, u, v1, v2, fun i hi => ?_⟩, v4⟩, L, q4⟩
  have w := v3 i (by omega)
  rw [a1 i (by omega), hD, o_ce_G (by omega) a1 hI hO] at w
  exact w
end ROWS3
