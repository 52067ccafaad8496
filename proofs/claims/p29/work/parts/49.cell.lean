set_option linter.all false
/-! the law's cell: some int of the script */ -/
def c_Pc (G : Gt) (b L : Nat) (xs : Nat → Int32) (as : List Value) (σ : Sg) : Array Value → State → Prop := va_Pc as (fun U => o_En G U ∧ o_W G σ U.heap ∧ va_X b L xs U U.heap ∧ b < U.heap.size ∧ ¬ o_A G b)
section CELL
variable {p : Program} {l : Launch} {e : Env} {R : Room} {s : State} {m : MethodId} {args : Array Value} {below : List Frame} {meth : Method} {c : Code} {Q : State → Prop} {G : Gt} {kc ks nL : Nat} {σ : Sg} {pc : Nat} {lv lv' : List (Nat × Value)} {st : List Value} {cc : ByteArray} {own : String} {b L : Nat} {xs : Nat → Int32}
theorem r_slen (hc : o_Cx p s m args meth c G cc own nL) (hX : va_X b L xs s s.heap) (hbl : b < s.heap.size) (hbA : ¬ o_A G b) (hd : decode cc pc = .ok (.arraylength, 1))
    (kk : o_V p l e R s m args below meth c Q G kc ks nL σ (pc + 1) lv (.int (Int32.ofNat L) :: st)) : o_V p l e R s m args below meth c Q G kc ks nL σ pc lv (.ref b :: st) :=
  fun H locs ls hP hS hl => va_slen hc.1 hc.2.1 hX hbl hbA hS hd (kk H locs ls hP hS hl)
theorem r_sld (hc : o_Cx p s m args meth c G cc own nL) (hX : va_X b L xs s s.heap) (hbl : b < s.heap.size) (hbA : ¬ o_A G b) {i : Int32} (hin : vp_in i L) (hd : decode cc pc = .ok (.iaload, 1))
    (kk : o_V p l e R s m args below meth c Q G kc ks nL σ (pc + 1) lv (.int (xs i.toNatClampNeg) :: st)) : o_V p l e R s m args below meth c Q G kc ks nL σ pc lv (.int i :: .ref b :: st) :=
  fun H locs ls hP hS hl => va_sld hc.1 hc.2.1 hX hbl hbA hS hin hd (kk H locs ls hP hS hl)
theorem r_ixor (hc : o_Cx p s m args meth c G cc own nL) {x y : Int32} (hd : decode cc pc = .ok (.ixor, 1))
    (kk : o_V p l e R s m args below meth c Q G kc ks nL σ (pc + 1) lv (.int (x ^^^ y) :: st)) : o_V p l e R s m args below meth c Q G kc ks nL σ pc lv (.int y :: .int x :: st) :=
  fun H locs ls hP hS hl => lv_ixor hc.1 hc.2.1 hd (kk H locs ls hP hS hl)
theorem r_iushr (hc : o_Cx p s m args meth c G cc own nL) {x y : Int32} (hd : decode cc pc = .ok (.iushr, 1))
    (kk : ∀ v : Int32, o_V p l e R s m args below meth c Q G kc ks nL σ (pc + 1) lv (.int v :: st)) : o_V p l e R s m args below meth c Q G kc ks nL σ pc lv (.int y :: .int x :: st) :=
  fun H locs ls hP hS hl => lv_iushr hc.1 hc.2.1 hd rfl (kk _ H locs ls hP hS hl)
theorem t_cell18 (hc : o_Cx p s m args meth c G cL_cell yL_cell.cls 3) (hr : meth.sig.returnType = some .int) {y k : Int32} : o_V p l e R s m args below meth c (MQ below (va_Qi (fun _ σ' => σ' = σ) (fun σ' t => o_W G σ' t.heap) (o_A G)) args s 0 0 (o_A G)) G 0 0 3 σ 18 [(0, .ref b), (1, .int k)] [.int y] := by
  refine r_istore_n (lv' := [(2, .int y), (0, .ref b), (1, .int k)]) hc dL_cell_18 rfl (by decide) rfl ?_
  refine r_iload_n hc 0 dL_cell_19 rfl rfl ?_
  refine r_iload_n hc 0 dL_cell_20 rfl rfl ?_
  refine r_bipush (v := 15) hc dL_cell_21 (by decide) ?_
  refine r_iushr hc dL_cell_23 (fun v => ?_)
  refine r_ixor hc dL_cell_24 ?_
  exact r_iret hc hr rfl dL_cell_25 rfl
theorem c_cell (l : Launch) (G : Gt) (b L : Nat) (xs : Nat → Int32) {σ : Sg} {i : Nat} (hi : i < 1000) (hL : L ≤ 260) : Met l yL_cell (Cond.code yL_cell cL_cell 3 (some .int) :: WS) { frames := 0, cells := 0, slots := 0, locals := 0 } (c_Pc G b L xs [.ref b, .int (zI i)] σ) (va_Qi (fun _ σ' => σ' = σ) (fun σ' t => o_W G σ' t.heap) (o_A G)) 0 0 (o_A G) := by
  refine Met.ofW (cc := cL_cell) (maxL := 3) (ret := some .int) (by decide +kernel) rfl ?_
  intro p e s m args below meth c s₁ B hml hv
  obtain ⟨rfl, hE, hP, hX, hbl, hbA⟩ := hv
  have hts := atoms_spec (ws := Cond.code yL_cell cL_cell 3 (some .int) :: WS) B.pre
  have hc : o_Cx p s m ([.ref b, .int (zI i)] : List Value).toArray meth c G cL_cell yL_cell.cls 3 := ⟨B.exec, B.bytes, hml, findClass_of_methodNamed B.named, fun w hw => hts w (List.mem_cons_of_mem _ hw), hE, B.notSynchronized⟩
  have hr := B.returns
  have go : o_V p l e { frames := 0, cells := 0, slots := 0, locals := 0 } s m ([.ref b, .int (zI i)] : List Value).toArray below meth c (MQ below (va_Qi (fun _ σ' => σ' = σ) (fun σ' t => o_W G σ' t.heap) (o_A G)) ([.ref b, .int (zI i)] : List Value).toArray s 0 0 (o_A G)) G 0 0 3 σ 0 (lv_args 0 [.ref b, .int (zI i)]) [] := by
    refine r_iload_n hc 1 dL_cell_0 rfl rfl ?_
    refine r_aload_n hc 0 dL_cell_1 rfl rfl ?_
    refine r_slen hc hX hbl hbA dL_cell_2 ?_
    refine r_icmp_ge (tgt := 12) hc dL_cell_3 (by decide) (fun _ => ?_) (fun q => ?_)
    · refine r_ldc hc kK_L_7 dL_cell_12 ?_
      refine r_iload_n hc 1 dL_cell_14 rfl rfl ?_
      refine r_iconst (v := 3) hc dL_cell_15 rfl ?_
      refine r_iadd hc dL_cell_16 ?_
      refine r_imul hc dL_cell_17 ?_
      exact t_cell18 hc hr
    · refine r_aload_n hc 0 dL_cell_6 rfl rfl ?_
      refine r_iload_n hc 1 dL_cell_7 rfl rfl ?_
      have hin : vp_in (zI (i : Int)) L := by
        rw [vp_in_iff, z_int (by unfold zB; omega)]
        rw [Int32.le_iff_toInt_le, z_int (by unfold zB; omega)] at q
        rw [z_on, z_int (by unfold zB; omega)] at q
        omega
      refine r_sld hc hX hbl hbA hin dL_cell_8 ?_
      refine r_goto (tgt := 18) hc dL_cell_9 (by decide) ?_
      exact t_cell18 hc hr
  rw [lg_entry_eq]
  exact go s.heap [] _ hP va_S.rf (lv_entry [.ref b, .int (zI i)] (Nat.le_of_ble_eq_true rfl))
theorem c_pre (hc : o_Cx p s m args meth c G cc own nL) (hX : va_X b L xs s s.heap) (hbl : b < s.heap.size) (hbA : ¬ o_A G b) {H : Heap} {locs : List Loc} (hP : o_W G σ H) (hS : va_S (o_A G) s.heap H locs) (as : List Value) : PreS s H (c_Pc G b L xs as σ) as :=
  ⟨fun a U g mk h => by
    obtain ⟨q0, qE, qW, qX, ql, qA⟩ := h
    exact ⟨q0, qE.blind, qW, va_X.moved (u := U) (U := U.calling g mk a) (Vm.Alike.refl U.vm) qX, ql, qA⟩, fun U hU hW => ⟨rfl, hc.2.2.2.2.2.1.warm hS hU hW, by rw [hU]; exact hP, by rw [hU]; exact (hX.moved hW.alike).kept (hS.2.1 b hbl hbA), by rw [hU]; exact Nat.lt_of_lt_of_le hbl hS.1, hbA⟩⟩
end CELL
