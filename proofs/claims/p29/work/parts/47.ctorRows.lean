set_option linter.all false
/-! rows for the constructors: a growing list of cells -/
abbrev nT (cI cO : ClassId) : List (ClassId × FieldType) := [(cI, .int), (cO, .object RX3)]
def n_Cx (p : Program) (s : State) (m : MethodId) (args : Array Value) (meth : Method) (c : Code) (cc : ByteArray) (own : String) (nL : Nat) (D : va_G) (cI cO : ClassId) (A : Nat → Prop) : Prop :=
  p.tables.exec = Jvm.exec ∧ c.code = cc ∧ c.maxLocals = nL ∧ s.vm.findClass own = some m.cls ∧ (∀ w ∈ WS, w.before args s = true) ∧ (∀ w ∈ o_N, va_Nw w s) ∧ va_AO RX3 s ∧ va_K D vwCl (nT cI cO) s ∧ (∀ q, s.heap.size ≤ q → A q) ∧ meth.locks = false
def n_V (p : Program) (l : Launch) (e : Env) (R : Room) (s : State) (m : MethodId) (args : Array Value) (below : List Frame) (meth : Method) (c : Code) (Q : State → Prop) (D : va_G) (A : Nat → Prop) (kc ks nL : Nat) (ws : va_W) (pc : Nat) (lv : List (Nat × Value)) (st : List Value) : Prop :=
  ∀ (H : Heap) (locs : List Loc) (ls : Array Slot), va_P D vwCl ws H → va_D A ws → va_S A s.heap H locs → lv_has ls nL lv → W p l e R s m args below meth c H locs kc ks Q (F0 m pc ls st)
section NROWS
variable {p : Program} {l : Launch} {e : Env} {R : Room} {s : State} {m : MethodId} {args : Array Value} {below : List Frame} {meth : Method} {c : Code} {Q : State → Prop} {D : va_G} {A : Nat → Prop} {kc ks nL : Nat} {ws ws' : va_W} {pc : Nat} {lv lv' : List (Nat × Value)} {st : List Value} {cc : ByteArray} {own : String} {cI cO : ClassId}
theorem n_iconst (hc : n_Cx p s m args meth c cc own nL D cI cO A) {n : Int} {v : Int32} (hd : decode cc pc = .ok (.iconst n, 1)) (hv : Int32.ofInt n = v)
    (kk : n_V p l e R s m args below meth c Q D A kc ks nL ws (pc + 1) lv (.int v :: st)) : n_V p l e R s m args below meth c Q D A kc ks nL ws pc lv st :=
  fun H locs ls hP hD hS hl => lv_iconst hc.1 hc.2.1 hd hv (kk H locs ls hP hD hS hl)
theorem n_bipush (hc : n_Cx p s m args meth c cc own nL D cI cO A) {n : Int} {v : Int32} (hd : decode cc pc = .ok (.bipush n, 2)) (hv : (Int8.ofInt n).toInt32 = v)
    (kk : n_V p l e R s m args below meth c Q D A kc ks nL ws (pc + 2) lv (.int v :: st)) : n_V p l e R s m args below meth c Q D A kc ks nL ws pc lv st :=
  fun H locs ls hP hD hS hl => lv_bipush hc.1 hc.2.1 hd hv (kk H locs ls hP hD hS hl)
theorem n_sipush (hc : n_Cx p s m args meth c cc own nL D cI cO A) {n : Int} {v : Int32} (hd : decode cc pc = .ok (.sipush n, 3)) (hv : (Int16.ofInt n).toInt32 = v)
    (kk : n_V p l e R s m args below meth c Q D A kc ks nL ws (pc + 3) lv (.int v :: st)) : n_V p l e R s m args below meth c Q D A kc ks nL ws pc lv st :=
  fun H locs ls hP hD hS hl => lv_sipush hc.1 hc.2.1 hd hv (kk H locs ls hP hD hS hl)
theorem n_aload_n (hc : n_Cx p s m args meth c cc own nL D cI cO A) {k : Fin 4} {i : Nat} {x : Nat} (q : Nat) (hd : decode cc pc = .ok (.aload_n k, 1)) (hi : (k : Nat) = i) (hq : lv[q]? = some (i, .ref x))
    (kk : n_V p l e R s m args below meth c Q D A kc ks nL ws (pc + 1) lv (.ref x :: st)) : n_V p l e R s m args below meth c Q D A kc ks nL ws pc lv st :=
  fun H locs ls hP hD hS hl => lv_aload_n hc.1 hc.2.1 hd hi (lv_at hl q hq) (kk H locs ls hP hD hS hl)
theorem n_astore_n (hc : n_Cx p s m args meth c cc own nL D cI cO A) {k : Fin 4} {i : Nat} {x : Nat} (hd : decode cc pc = .ok (.astore_n k, 1)) (hi : (k : Nat) = i) (hn : i < nL) (hl' : (i, Value.ref x) :: lv.filter (fun q => !(q.1 == i) && !(q.1 + 1 == i && q.2.category == 2)) = lv')
    (kk : n_V p l e R s m args below meth c Q D A kc ks nL ws (pc + 1) lv' st) : n_V p l e R s m args below meth c Q D A kc ks nL ws pc lv (.ref x :: st) :=
  fun H locs ls hP hD hS hl => lv_astore_n hc.1 hc.2.1 hd hi hl hn hl' (fun ls' hl2 => kk H locs ls' hP hD hS hl2)
theorem n_istore_n (hc : n_Cx p s m args meth c cc own nL D cI cO A) {k : Fin 4} {i : Nat} {x : Int32} (hd : decode cc pc = .ok (.istore_n k, 1)) (hi : (k : Nat) = i) (hn : i < nL) (hl' : (i, Value.int x) :: lv.filter (fun q => !(q.1 == i) && !(q.1 + 1 == i && q.2.category == 2)) = lv')
    (kk : n_V p l e R s m args below meth c Q D A kc ks nL ws (pc + 1) lv' st) : n_V p l e R s m args below meth c Q D A kc ks nL ws pc lv (.int x :: st) :=
  fun H locs ls hP hD hS hl => lv_istore_n hc.1 hc.2.1 hd hi hl hn hl' (fun ls' hl2 => kk H locs ls' hP hD hS hl2)
theorem n_dup (hc : n_Cx p s m args meth c cc own nL D cI cO A) {v : Value} (hd : decode cc pc = .ok (.dup, 1)) (hv : v.category = 1)
    (kk : n_V p l e R s m args below meth c Q D A kc ks nL ws (pc + 1) lv (v :: v :: st)) : n_V p l e R s m args below meth c Q D A kc ks nL ws pc lv (v :: st) :=
  fun H locs ls hP hD hS hl => lv_dup hc.1 hc.2.1 hd hv (kk H locs ls hP hD hS hl)
theorem n_obj (hc : n_Cx p s m args meth c cc own nL D cI cO A) {idx a : Nat} (hw : Cond.methodLink own idx Lib.objectInit ∈ WS) (hd : decode cc pc = .ok (.invokespecial idx, 3)) (hR : 1 ≤ R.frames ∧ 12 ≤ R.locals)
    (kk : n_V p l e R s m args below meth c Q D A kc ks nL ws (pc + 3) lv []) : n_V p l e R s m args below meth c Q D A kc ks nL ws pc lv [.ref a] :=
  fun H locs ls hP hD hS hl => W.objInit hc.1 hc.2.1 hc.2.2.2.1 (hc.2.2.2.2.1 _ hw) (hc.2.2.2.2.1 _ kI_Object_init) (hc.2.2.2.2.1 _ kC_Object_init) rfl (by rw [hc.2.2.1]; exact hl.1) rfl hd hR.1 hR.2 (W.eq (g2 := F0 m (pc + 3) ls []) rfl (kk H locs ls hP hD hS hl))
theorem n_get (hc : n_Cx p s m args meth c cc own nL D cI cO A) {ref C : String} {T : u_T} {N ci index a : Nat} (hcl : vwCl[ci]? = some (C, T, N)) (hin : ∀ w ∈ u_ws C T N, w ∈ WS) (q0 k : Nat) {fs : List Value} (he : ws[q0]? = some (a, .inr (ci, fs))) (hk : k < N) (hw : Cond.fieldLink own index ref (T k).2.1 (T k).2.2.1 ∈ WS) (hr : (T k).1 = ref) {v : Value} (hv : fs[k]? = some v) (hd : decode cc pc = .ok (.getfield index, 3))
    (kk : n_V p l e R s m args below meth c Q D A kc ks nL ws (pc + 3) lv (v :: st)) : n_V p l e R s m args below meth c Q D A kc ks nL ws pc lv (.ref a :: st) := by
  subst hr
  exact fun H locs ls hP hD hS hl => va_get hc.1 hc.2.1 hc.2.2.2.2.1 hin hc.2.2.2.1 hc.2.2.2.2.2.2.2.1 hP q0 he hcl k hk (hc.2.2.2.2.1 _ hw) (fun _ h => h) hv hd (kk H locs ls hP hD hS hl)
theorem n_put (hc : n_Cx p s m args meth c cc own nL D cI cO A) {ref C : String} {T : u_T} {N ci index a : Nat} {ty0 : Nat → FieldType} (hK : o_KK ci C T N ty0) (q0 k : Nat) {fs : List Value} (he : ws[q0]? = some (a, .inr (ci, fs))) (hk : k < N) (hw : Cond.fieldLink own index ref (T k).2.1 (T k).2.2.1 ∈ WS) (hr : (T k).1 = ref) (hfin : (T k).2.2.2 = false) {v : Value} (hn : narrow (ty0 k) v = v) (hfit : fits (ty0 k) v = true) (hl0 : k < fs.length) (hd : decode cc pc = .ok (.putfield index, 3)) (hws : ws.set q0 (a, .inr (ci, fs.set k v)) = ws')
    (kk : n_V p l e R s m args below meth c Q D A kc ks nL ws' (pc + 3) lv st) : n_V p l e R s m args below meth c Q D A kc ks nL ws pc lv (v :: .ref a :: st) := by
  subst hr hws
  exact fun H locs ls hP hD hS hl => va_put hc.1 hc.2.1 hc.2.2.2.2.1 hK.2.1 ty0 hK.2.2.1 hK.2.2.2.1 hc.2.2.2.1 hc.2.2.2.2.2.2.2.1 hP hD hS q0 he hK.1 k hk (hc.2.2.2.2.1 _ hw) (fun _ h => h) hfin (hK.2.2.1 k hk) hn hfit hl0 hd (fun H1 locs1 hP1 hD1 hS1 => kk H1 locs1 ls hP1 hD1 hS1 hl)
theorem n_putF (hc : n_Cx p s m args meth c cc own nL D cI cO A) (hin : meth.name = "<init>") {ref C : String} {T : u_T} {N ci index a : Nat} {ty0 : Nat → FieldType} (hK : o_KK ci C T N ty0) (q0 k : Nat) {fs : List Value} (he : ws[q0]? = some (a, .inr (ci, fs))) (hk : k < N) (hw : Cond.fieldLink own index ref (T k).2.1 (T k).2.2.1 ∈ WS) (hr : (T k).1 = ref) (hfin : (T k).2.2.2 = true) (hdecl : (T k).1 = own) {v : Value} (hn : narrow (ty0 k) v = v) (hfit : fits (ty0 k) v = true) (hl0 : k < fs.length) (hd : decode cc pc = .ok (.putfield index, 3)) (hws : ws.set q0 (a, .inr (ci, fs.set k v)) = ws')
    (kk : n_V p l e R s m args below meth c Q D A kc ks nL ws' (pc + 3) lv st) : n_V p l e R s m args below meth c Q D A kc ks nL ws pc lv (v :: .ref a :: st) := by
  subst hr hws
  exact fun H locs ls hP hD hS hl => va_putF hc.1 hc.2.1 hc.2.2.2.2.1 hK.2.1 ty0 hK.2.2.1 hK.2.2.2.1 hc.2.2.2.1 hc.2.2.2.2.2.2.2.1 hP hD hS q0 he hK.1 k hk (hc.2.2.2.2.1 _ hw) (fun _ h => h) hfin hin hdecl (hK.2.2.1 k hk) hn hfit hl0 hd (fun H1 locs1 hP1 hD1 hS1 => kk H1 locs1 ls hP1 hD1 hS1 hl)
theorem n_newa (hc : n_Cx p s m args meth c cc own nL D cI cO A) {n : Int32} {N : Nat} (hn : ¬ n < 0) (hN : n.toNatClampNeg = N) (hb : N * 4 ≤ 536870912) (hcs : kc + 1 ≤ R.cells ∧ ks + N ≤ R.slots) (hd : decode cc pc = .ok (.newarray .int, 2))
    (kk : ∀ q : Nat, n_V p l e R s m args below meth c Q D A (kc + 1) (ks + N) nL (ws ++ [(q, .inl (cI, N, .inl (fun _ => 0)))]) (pc + 2) lv (.ref q :: st)) : n_V p l e R s m args below meth c Q D A kc ks nL ws pc lv (.int n :: st) := by
  intro H locs ls hP hD hS hl
  refine va_newa (atype := .int) (a0 := (N, .inl (fun _ => 0))) (ty := .int) hc.1 hc.2.1 (hc.2.2.2.2.1 _ kA_int) rfl hc.2.2.2.2.2.2.2.1 hP hD hS hc.2.2.2.2.2.2.2.2.1 (fun cA => rfl) hn hN hb hcs.1 hcs.2 hd (fun q cA H1 hK1 hP1 hD1 hS1 => ?_)
  have h1 : s.vm.findClass ("[" ++ (FieldType.int).toString) = some cA := (hK1.2 2 (cA, .int) rfl).2
  have h2 : s.vm.findClass ("[" ++ (FieldType.int).toString) = some cI := (hc.2.2.2.2.2.2.2.1.2 0 (cI, .int) rfl).2
  have h3 : cA = cI := Option.some.inj (h1.symm.trans h2)
  subst h3
  exact kk q H1 locs ls hP1 hD1 hS1 hl
theorem n_iast (hc : n_Cx p s m args meth c cc own nL D cI cO A) (q0 : Nat) {a n : Nat} {f : Nat → Int32} (ha : ws[q0]? = some (a, .inl (cI, n, .inl f))) {i x : Int32} (hin : vp_in i n) (hd : decode cc pc = .ok (.iastore, 1)) (hws : ws.set q0 (a, .inl (cI, n, .inl (upd f i.toNatClampNeg x))) = ws')
    (kk : n_V p l e R s m args below meth c Q D A kc ks nL ws' (pc + 1) lv st) : n_V p l e R s m args below meth c Q D A kc ks nL ws pc lv (.int x :: .int i :: .ref a :: st) := by
  subst hws
  exact fun H locs ls hP hD hS hl => va_iast hc.1 hc.2.1 hc.2.2.2.2.2.2.2.1 hP hD hS q0 0 ha rfl hin hd (fun H1 locs1 hP1 hD1 hS1 => kk H1 locs1 ls hP1 hD1 hS1 hl)
theorem n_new (hc : n_Cx p s m args meth c cc own nL D cI cO A) {C : String} {T : u_T} {N ci index : Nat} {ty0 : Nat → FieldType} (hK : o_KK ci C T N ty0) (hw : Cond.classLink own index C ∈ WS) (ht : Cond.instantiable C N ∈ WS) (hini : Cond.initialized C ∈ WS) {fs : List Value} (hfs : ∀ j, j < N → defaultValue (ty0 j) = vp_V fs j) (hcs : kc + 1 ≤ R.cells ∧ ks + N ≤ R.slots) (hd : decode cc pc = .ok (.new index, 3))
    (kk : ∀ q : Nat, n_V p l e R s m args below meth c Q D A (kc + 1) (ks + N) nL (ws ++ [(q, .inr (ci, fs))]) (pc + 3) lv (.ref q :: st)) : n_V p l e R s m args below meth c Q D A kc ks nL ws pc lv st :=
  fun H locs ls hP hD hS hl => va_new hc.1 hc.2.1 hc.2.2.2.2.1 hK.2.1 ty0 hK.2.2.1 hc.2.2.2.1 (hc.2.2.2.2.1 _ hw) (hc.2.2.2.2.1 _ ht) (hc.2.2.2.2.1 _ hini) hc.2.2.2.2.2.2.2.1 hP hD hS hc.2.2.2.2.2.2.2.2.1 hK.1 hfs hcs.1 hcs.2 hd (fun q H1 hP1 hD1 hS1 => kk q H1 locs ls hP1 hD1 hS1 hl)
theorem n_newq (hc : n_Cx p s m args meth c cc own nL D cI cO A) {index : Nat} (hw : Cond.classLink own index RX3 ∈ WS) {n : Int32} {N : Nat} (hn : ¬ n < 0) (hN : n.toNatClampNeg = N) (hb : N * 4 ≤ 536870912) (hcs : kc + 1 ≤ R.cells ∧ ks + N ≤ R.slots) (hd : decode cc pc = .ok (.anewarray index, 3))
    (kk : ∀ q : Nat, n_V p l e R s m args below meth c Q D A (kc + 1) (ks + N) nL (ws ++ [(q, .inl (cO, N, .inr (.inr (.inr (.inr (fun _ => none))))))]) (pc + 3) lv (.ref q :: st)) : n_V p l e R s m args below meth c Q D A kc ks nL ws pc lv (.int n :: st) := by
  intro H locs ls hP hD hS hl
  refine va_newq (C := RX3) hc.1 hc.2.1 hc.2.2.2.1 (hc.2.2.2.2.1 _ hw) hc.2.2.2.2.2.2.1 hc.2.2.2.2.2.2.2.1 hP hD hS hc.2.2.2.2.2.2.2.2.1 hn hN hb hcs.1 hcs.2 hd (fun q cA H1 hK1 hP1 hD1 hS1 => ?_)
  obtain ⟨-, -, -, -, -, h1⟩ := (hK1.2 2 (cA, .object RX3) rfl).2
  obtain ⟨-, -, -, -, -, h2⟩ := (hc.2.2.2.2.2.2.2.1.2 1 (cO, .object RX3) rfl).2
  have h3 : cA = cO := Option.some.inj (h1.symm.trans h2)
  subst h3
  exact kk q H1 locs ls hP1 hD1 hS1 hl
theorem n_qast (hc : n_Cx p s m args meth c cc own nL D cI cO A) (q0 qk : Nat) {a n v : Nat} {vs : List Value} {f : Nat → Option Nat} (ha : ws[q0]? = some (a, .inl (cO, n, .inr (.inr (.inr (.inr f)))))) (hv : ws[qk]? = some (v, .inr (3, vs))) {i : Int32} (hin : vp_in i n) (hd : decode cc pc = .ok (.aastore, 1)) (hws : ws.set q0 (a, .inl (cO, n, .inr (.inr (.inr (.inr (va_up f i.toNatClampNeg (some v))))))) = ws')
    (kk : n_V p l e R s m args below meth c Q D A kc ks nL ws' (pc + 1) lv st) : n_V p l e R s m args below meth c Q D A kc ks nL ws pc lv (.ref v :: .int i :: .ref a :: st) := by
  subst hws
  exact fun H locs ls hP hD hS hl => va_astq (r := (RX3, TX3, 11)) hc.1 hc.2.1 hc.2.2.2.2.2.2.2.1 hP hD hS q0 1 qk 3 ha rfl hv rfl hin hd (fun H1 locs1 hP1 hD1 hS1 => kk H1 locs1 ls hP1 hD1 hS1 hl)
end NROWS
/-- a constructor's contract: the cell h0 with its defaults comes in; behind it the cells ws -/
def n_Pc (D : va_G) (cI cO : ClassId) (h0 ci : Nat) (fs : List Value) (sz : Nat) : Array Value → State → Prop := va_Pc [.ref h0] (fun U => U.heap.size = sz ∧ va_P D vwCl [(h0, .inr (ci, fs))] U.heap ∧ va_K D vwCl (nT cI cO) U ∧ va_D (fun _ => True) [(h0, .inr (ci, fs))] ∧ (∀ w ∈ o_N, va_Nw w U) ∧ va_AO RX3 U)
def n_Ct (l : Launch) (D : va_G) (cI cO : ClassId) (y : MethodName) (bytes : ByteArray) (fr k n lc ci : Nat) (fs : List Value) (post : Nat → va_W → Prop) : Prop :=
  ∀ h0 sz : Nat, Met l y (Cond.code y bytes 1 none :: WS) { frames := fr, cells := k, slots := n, locals := lc } (n_Pc D cI cO h0 ci fs sz) (va_Qv (post h0) (fun ws t => va_P D vwCl ws t.heap ∧ va_D (va_A [(h0, .inr (ci, fs))] sz) ws) (va_A [(h0, .inr (ci, fs))] sz)) k n (va_A [(h0, .inr (ci, fs))] sz)
theorem n_Ct.of {l : Launch} {D : va_G} {cI cO : ClassId} {y : MethodName} {bytes : ByteArray} {fr k n lc ci : Nat} {fs : List Value} {post : Nat → va_W → Prop} (hy : plainName y.cls = true) (hin : y.name = "<init>")
    (body : ∀ (p : Program) (e : Env) (s : State) (m : MethodId) (args : Array Value) (below : List Frame) (meth : Method) (c : Code) (A : Nat → Prop) (h0 : Nat), n_Cx p s m args meth c bytes y.cls 1 D cI cO A → meth.sig.returnType = none → meth.name = "<init>" → n_V p l e { frames := fr, cells := k, slots := n, locals := lc } s m args below meth c (MQ below (va_Qv (post h0) (fun ws t => va_P D vwCl ws t.heap ∧ va_D A ws) A) args s k n A) D A 0 0 1 [(h0, .inr (ci, fs))] 0 (lv_args 0 [.ref h0]) []) : n_Ct l D cI cO y bytes fr k n lc ci fs post := by
  intro h0 sz
  refine Met.ofW (cc := bytes) (maxL := 1) (ret := none) hy rfl ?_
  intro p e s m args below meth c s₁ B hml hv
  obtain ⟨rfl, hsz, hP, hK, hD0, hN, hO⟩ := hv
  have hts := atoms_spec (ws := Cond.code y bytes 1 none :: WS) B.pre
  subst hsz
  have hD := hD0.self (sz := s.heap.size)
  rw [lg_entry_eq]
  exact body p e s m _ below meth c _ h0 ⟨B.exec, B.bytes, hml, findClass_of_methodNamed B.named, fun w hw => hts w (List.mem_cons_of_mem _ hw), hN, hO, hK, fun q h => Or.inr h, B.notSynchronized⟩ B.returns ((name_of_methodNamed B.named B.method).1.trans hin) s.heap [] _ hP hD va_S.rf (lv_entry _ (Nat.le_refl 1))
section NCALL
variable {p : Program} {l : Launch} {e : Env} {R : Room} {s : State} {m : MethodId} {args : Array Value} {below : List Frame} {meth : Method} {c : Code} {Q : State → Prop} {D : va_G} {A : Nat → Prop} {kc ks nL : Nat} {pc : Nat} {lv : List (Nat × Value)} {st : List Value} {cc : ByteArray} {own : String} {cI cO : ClassId} {y : MethodName} {bytes : ByteArray} {fr k n lc ci : Nat} {fs : List Value} {post : Nat → va_W → Prop} {idx q : Nat} {wr : va_W}
theorem n_vret (hc : n_Cx p s m args meth c cc own nL D cI cO A) {ws : va_W} {po : va_W → Prop} (hr : meth.sig.returnType = none) (hd : decode cc pc = .ok (.return_, 1)) (hp : po ws) : n_V p l e R s m args below meth c (MQ below (va_Qv po (fun ws t => va_P D vwCl ws t.heap ∧ va_D A ws) A) args s kc ks A) D A kc ks nL ws pc lv [] :=
  fun H locs ls hP hD hS hl => W.vret hc.1 hc.2.1 hr (fun t ht hW => ⟨⟨ws, rfl, hp, by rw [ht]; exact hP, hD⟩, hS.F ht⟩) hS.2.2 hd hc.2.2.2.2.2.2.2.2.2
theorem n_pre {H : Heap} {locs : List Loc} (hc : n_Cx p s m args meth c cc own nL D cI cO A) (hP : va_P D vwCl [(q, .inr (ci, fs))] H) (hD : va_D A [(q, .inr (ci, fs))]) : PreS s H (n_Pc D cI cO q ci fs H.size) [.ref q] :=
  ⟨fun a U g mk h => by
    obtain ⟨q0, q1, qP, qK, qD, qN, qO⟩ := h
    exact ⟨q0, q1, qP, va_K.moved (u := U) (U := U.calling g mk a) (Vm.Alike.refl U.vm) qK, qD, fun w hw => va_Nw.same (o_nwT hw) (u := U) (U := U.calling g mk a) rfl (qN w hw), va_AO.moved (u := U) (U := U.calling g mk a) (Vm.Alike.refl U.vm) qO⟩, fun U hU hW => ⟨rfl, by rw [hU], by rw [hU]; exact hP, va_K.moved hW.alike hc.2.2.2.2.2.2.2.1, hD.weaken (fun _ _ _ _ => trivial), fun w hw => o_nwW hw hW (hc.2.2.2.2.2.1 w hw), va_AO.moved hW.alike hc.2.2.2.2.2.2.1⟩⟩
theorem n_end {H : Heap} {locs : List Loc} {ls : Array Slot} {st0 : List Value} {a : Array Value} (hc : n_Cx p s m args meth c cc own nL D cI cO A) (isR : List Nat) (hR : isR.map (fun i => (wr ++ [(q, .inr (ci, fs))])[i]?) = wr.map some) (hn : va_nd isR = true) (hdis : ∀ i ∈ isR, i ∉ [wr.length]) (hP : va_P D vwCl (wr ++ [(q, .inr (ci, fs))]) H) (hD : va_D A (wr ++ [(q, .inr (ci, fs))])) (hS : va_S A s.heap H locs) (hl : lv_has ls nL lv)
    (hr : va_Run p l e R s m args below meth c H locs kc ks k n (F0 m pc ls st0) st (va_Qv (post q) (fun ws t => va_P D vwCl ws t.heap ∧ va_D (va_A [(q, .inr (ci, fs))] H.size) ws) (va_A [(q, .inr (ci, fs))] H.size) a) (va_A [(q, .inr (ci, fs))] H.size))
    (kk : ∀ w1 : va_W, post q w1 → n_V p l e R s m args below meth c Q D A (kc + k) (ks + n) nL (wr ++ w1) (pc + 3) lv st) : W p l e R s m args below meth c H locs kc ks Q (F0 m pc ls st0) := by
  have hC : [wr.length].map (fun i => (wr ++ [(q, (.inr (ci, fs) : va_E))])[i]?) = [(q, (.inr (ci, fs) : va_E))].map some := by simp
  have hF := va_free (wc := [(q, .inr (ci, fs))]) hD hS hc.2.2.2.2.2.2.2.2.1 [wr.length] hC
  refine va_callv hr hS (fun x _ h => hF x h) hF (fun u t H1 locs1 ht hvm hw hB hz1 hk1 hS1 => ?_)
  obtain ⟨hP1, hD1⟩ := hB
  rw [ht] at hP1
  obtain ⟨hP2, hD2⟩ := va_join (wr := wr) (w1 := u) hP hD [wr.length] isR hC hR hn hdis hk1 hF hP1 hD1
  exact kk u hw H1 locs1 ls hP2 hD2 hS1 hl
theorem n_one {H : Heap} (hP : va_P D vwCl (wr ++ [(q, .inr (ci, fs))]) H) (hD : va_D A (wr ++ [(q, .inr (ci, fs))])) : va_P D vwCl [(q, .inr (ci, fs))] H ∧ va_D A [(q, .inr (ci, fs))] := by
  have h1 : (wr ++ [(q, (.inr (ci, fs) : va_E))])[wr.length]? = some (q, .inr (ci, fs)) := by simp
  refine ⟨fun k x hx => ?_, fun i j x z hx hz _ => ?_, fun k x hx => ?_⟩
  · match k, hx with
    | 0, hx => cases hx; exact hP _ _ h1
    | k + 1, hx => simp at hx
  · match i, j, hx, hz with
    | 0, 0, _, _ => rfl
    | i + 1, _, hx, _ => simp at hx
    | 0, j + 1, _, hz => simp at hz
  · match k, hx with
    | 0, hx => cases hx; exact hD.2 _ _ h1
    | k + 1, hx => simp at hx
theorem n_callN (hc : n_Cx p s m args meth c cc own nL D cI cO A) (hM : n_Ct l D cI cO y bytes fr k n lc ci fs post) (hcode : Cond.code y bytes 1 none ∈ WS) (hinst : Cond.instanceMethod y ∈ WS) (hini : Cond.initialized y.cls ∈ WS) {host : String} (hw : Cond.methodLinkNest own idx y host ∈ o_N) (h5 : y.cls ≠ "java/lang/invoke/MethodHandle" ∧ y.cls ≠ "java/lang/invoke/VarHandle" ∧ (parseMethodDescriptor y.desc).map (fun d => d.parameters.length) = some 0) (hy : y.name = "<init>") (hR : fr + 1 ≤ R.frames ∧ 8 + (1 + 11) + lc ≤ R.locals) (hcs : kc + k ≤ R.cells ∧ ks + n ≤ R.slots) (hroom : (st.map fun v => v.category).sum ≤ 8) (hd : decode cc pc = .ok (.invokespecial idx, 3)) (isR : List Nat) (hRr : isR.map (fun i => (wr ++ [(q, .inr (ci, fs))])[i]?) = wr.map some) (hn : va_nd isR = true) (hdis : ∀ i ∈ isR, i ∉ [wr.length])
    (kk : ∀ w1 : va_W, post q w1 → n_V p l e R s m args below meth c Q D A (kc + k) (ks + n) nL (wr ++ w1) (pc + 3) lv st) : n_V p l e R s m args below meth c Q D A kc ks nL (wr ++ [(q, .inr (ci, fs))]) pc lv (.ref q :: st) := by
  intro H locs ls hP hD hS hl
  obtain ⟨hP1, hD1⟩ := n_one hP hD
  exact n_end hc isR hRr hn hdis hP hD hS hl (va_runIN (As := []) (g := F0 m pc ls (.ref q :: st)) ⟨hc.1, hc.2.1, hc.2.2.1, hc.2.2.2.1, hc.2.2.2.2.1⟩ (hM q H.size) ⟨va_cnB 0 hc.2.2.2.2.1 (o_gi hcode) rfl rfl rfl (hc.2.2.2.2.2.1 _ hw) (hc.2.2.2.2.1 _ hini) h5 hR, hy, hc.2.2.2.2.1 _ hinst⟩ (n_pre (locs := locs) hc hP1 hD1) rfl rfl hl.1 rfl (lv_room hroom) hd hcs) kk
theorem n_callI (hc : n_Cx p s m args meth c cc own nL D cI cO A) (hM : n_Ct l D cI cO y bytes fr k n lc ci fs post) (hcode : Cond.code y bytes 1 none ∈ WS) (hinst : Cond.instanceMethod y ∈ WS) (hini : Cond.initialized y.cls ∈ WS) (hw : Cond.methodLink own idx y ∈ WS) (h5 : y.cls ≠ "java/lang/invoke/MethodHandle" ∧ y.cls ≠ "java/lang/invoke/VarHandle" ∧ (parseMethodDescriptor y.desc).map (fun d => d.parameters.length) = some 0) (hy : y.name = "<init>") (hR : fr + 1 ≤ R.frames ∧ 8 + (1 + 11) + lc ≤ R.locals) (hcs : kc + k ≤ R.cells ∧ ks + n ≤ R.slots) (hroom : (st.map fun v => v.category).sum ≤ 8) (hd : decode cc pc = .ok (.invokespecial idx, 3)) (isR : List Nat) (hRr : isR.map (fun i => (wr ++ [(q, .inr (ci, fs))])[i]?) = wr.map some) (hn : va_nd isR = true) (hdis : ∀ i ∈ isR, i ∉ [wr.length])
    (kk : ∀ w1 : va_W, post q w1 → n_V p l e R s m args below meth c Q D A (kc + k) (ks + n) nL (wr ++ w1) (pc + 3) lv st) : n_V p l e R s m args below meth c Q D A kc ks nL (wr ++ [(q, .inr (ci, fs))]) pc lv (.ref q :: st) := by
  intro H locs ls hP hD hS hl
  obtain ⟨hP1, hD1⟩ := n_one hP hD
  exact n_end hc isR hRr hn hdis hP hD hS hl (va_runI (As := []) (g := F0 m pc ls (.ref q :: st)) ⟨hc.1, hc.2.1, hc.2.2.1, hc.2.2.2.1, hc.2.2.2.2.1⟩ (hM q H.size) (cwI 0 hc.2.2.2.2.1 (o_gi hcode) rfl rfl rfl (hc.2.2.2.2.1 _ hini) (hc.2.2.2.2.1 _ hw) (hc.2.2.2.2.1 _ hinst) hy h5 hR) (n_pre (locs := locs) hc hP1 hD1) rfl rfl hl.1 rfl (lv_room hroom) hd hcs) kk
end NCALL
