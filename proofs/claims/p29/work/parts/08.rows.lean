/-! THE ROWS over the world: an instruction each -/
section ROWS
variable {p : Program} {l : Launch} {e : Env} {R : Room} {s : State} {m : MethodId} {args : Array Value} {below : List Frame} {meth : Method} {c : Code} {Q : State → Prop} {G : Gt} {kc ks nL : Nat} {σ : Sg} {pc : Nat} {lv lv' : List (Nat × Value)} {st : List Value} {cc : ByteArray} {own : String}
theorem r_iconst (hc : o_Cx p s m args meth c G cc own nL) {n : Int} {v : Int32} (hd : decode cc pc = .ok (.iconst n, 1)) (hv : Int32.ofInt n = v)
    (kk : o_V p l e R s m args below meth c Q G kc ks nL σ (pc + 1) lv (.int v :: st)) : o_V p l e R s m args below meth c Q G kc ks nL σ pc lv st :=
  fun H locs ls hP hS hl => lv_iconst hc.1 hc.2.1 hd hv (kk H locs ls hP hS hl)
theorem r_bipush (hc : o_Cx p s m args meth c G cc own nL) {n : Int} {v : Int32} (hd : decode cc pc = .ok (.bipush n, 2)) (hv : (Int8.ofInt n).toInt32 = v)
    (kk : o_V p l e R s m args below meth c Q G kc ks nL σ (pc + 2) lv (.int v :: st)) : o_V p l e R s m args below meth c Q G kc ks nL σ pc lv st :=
  fun H locs ls hP hS hl => lv_bipush hc.1 hc.2.1 hd hv (kk H locs ls hP hS hl)
theorem r_sipush (hc : o_Cx p s m args meth c G cc own nL) {n : Int} {v : Int32} (hd : decode cc pc = .ok (.sipush n, 3)) (hv : (Int16.ofInt n).toInt32 = v)
    (kk : o_V p l e R s m args below meth c Q G kc ks nL σ (pc + 3) lv (.int v :: st)) : o_V p l e R s m args below meth c Q G kc ks nL σ pc lv st :=
  fun H locs ls hP hS hl => lv_sipush hc.1 hc.2.1 hd hv (kk H locs ls hP hS hl)
theorem r_ldc (hc : o_Cx p s m args meth c G cc own nL) {idx : Nat} {v : Int32} (hw : Cond.constant own idx v ∈ WS) (hd : decode cc pc = .ok (.ldc idx, 2))
    (kk : o_V p l e R s m args below meth c Q G kc ks nL σ (pc + 2) lv (.int v :: st)) : o_V p l e R s m args below meth c Q G kc ks nL σ pc lv st :=
  fun H locs ls hP hS hl => lv_ldc hc.1 hc.2.1 hc.2.2.2.1 (hc.2.2.2.2.1 _ hw) hd (kk H locs ls hP hS hl)
theorem r_null (hc : o_Cx p s m args meth c G cc own nL) (hd : decode cc pc = .ok (.aconst_null, 1))
    (kk : o_V p l e R s m args below meth c Q G kc ks nL σ (pc + 1) lv (.null :: st)) : o_V p l e R s m args below meth c Q G kc ks nL σ pc lv st :=
  fun H locs ls hP hS hl => lv_null hc.1 hc.2.1 hd (kk H locs ls hP hS hl)
theorem r_iload_n (hc : o_Cx p s m args meth c G cc own nL) {k : Fin 4} {i : Nat} {x : Int32} (q : Nat) (hd : decode cc pc = .ok (.iload_n k, 1)) (hi : (k : Nat) = i) (hq : lv[q]? = some (i, .int x))
    (kk : o_V p l e R s m args below meth c Q G kc ks nL σ (pc + 1) lv (.int x :: st)) : o_V p l e R s m args below meth c Q G kc ks nL σ pc lv st :=
  fun H locs ls hP hS hl => lv_iload_n hc.1 hc.2.1 hd hi (lv_at hl q hq) (kk H locs ls hP hS hl)
theorem r_iload (hc : o_Cx p s m args meth c G cc own nL) {i : Nat} {x : Int32} (q : Nat) (hd : decode cc pc = .ok (.iload i, 2)) (hq : lv[q]? = some (i, .int x))
    (kk : o_V p l e R s m args below meth c Q G kc ks nL σ (pc + 2) lv (.int x :: st)) : o_V p l e R s m args below meth c Q G kc ks nL σ pc lv st :=
  fun H locs ls hP hS hl => lv_iload hc.1 hc.2.1 hd (lv_at hl q hq) (kk H locs ls hP hS hl)
theorem r_aload_n (hc : o_Cx p s m args meth c G cc own nL) {k : Fin 4} {i : Nat} {x : Nat} (q : Nat) (hd : decode cc pc = .ok (.aload_n k, 1)) (hi : (k : Nat) = i) (hq : lv[q]? = some (i, .ref x))
    (kk : o_V p l e R s m args below meth c Q G kc ks nL σ (pc + 1) lv (.ref x :: st)) : o_V p l e R s m args below meth c Q G kc ks nL σ pc lv st :=
  fun H locs ls hP hS hl => lv_aload_n hc.1 hc.2.1 hd hi (lv_at hl q hq) (kk H locs ls hP hS hl)
theorem r_aload (hc : o_Cx p s m args meth c G cc own nL) {i : Nat} {x : Nat} (q : Nat) (hd : decode cc pc = .ok (.aload i, 2)) (hq : lv[q]? = some (i, .ref x))
    (kk : o_V p l e R s m args below meth c Q G kc ks nL σ (pc + 2) lv (.ref x :: st)) : o_V p l e R s m args below meth c Q G kc ks nL σ pc lv st :=
  fun H locs ls hP hS hl => lv_aload hc.1 hc.2.1 hd (lv_at hl q hq) (kk H locs ls hP hS hl)
theorem r_istore_n (hc : o_Cx p s m args meth c G cc own nL) {k : Fin 4} {i : Nat} {x : Int32} (hd : decode cc pc = .ok (.istore_n k, 1)) (hi : (k : Nat) = i) (hn : i < nL) (hl' : (i, Value.int x) :: lv.filter (fun q => !(q.1 == i) && !(q.1 + 1 == i && q.2.category == 2)) = lv')
    (kk : o_V p l e R s m args below meth c Q G kc ks nL σ (pc + 1) lv' st) : o_V p l e R s m args below meth c Q G kc ks nL σ pc lv (Value.int x :: st) :=
  fun H locs ls hP hS hl => lv_istore_n hc.1 hc.2.1 hd hi hl hn hl' (fun ls2 h2 => kk H locs ls2 hP hS h2)
theorem r_istore (hc : o_Cx p s m args meth c G cc own nL) {i : Nat} {x : Int32} (hd : decode cc pc = .ok (.istore i, 2)) (hn : i < nL) (hl' : (i, Value.int x) :: lv.filter (fun q => !(q.1 == i) && !(q.1 + 1 == i && q.2.category == 2)) = lv')
    (kk : o_V p l e R s m args below meth c Q G kc ks nL σ (pc + 2) lv' st) : o_V p l e R s m args below meth c Q G kc ks nL σ pc lv (Value.int x :: st) :=
  fun H locs ls hP hS hl => lv_istore hc.1 hc.2.1 hd hl hn hl' (fun ls2 h2 => kk H locs ls2 hP hS h2)
theorem r_astore_n (hc : o_Cx p s m args meth c G cc own nL) {k : Fin 4} {i : Nat} {x : Nat} (hd : decode cc pc = .ok (.astore_n k, 1)) (hi : (k : Nat) = i) (hn : i < nL) (hl' : (i, Value.ref x) :: lv.filter (fun q => !(q.1 == i) && !(q.1 + 1 == i && q.2.category == 2)) = lv')
    (kk : o_V p l e R s m args below meth c Q G kc ks nL σ (pc + 1) lv' st) : o_V p l e R s m args below meth c Q G kc ks nL σ pc lv (Value.ref x :: st) :=
  fun H locs ls hP hS hl => lv_astore_n hc.1 hc.2.1 hd hi hl hn hl' (fun ls2 h2 => kk H locs ls2 hP hS h2)
theorem r_astore (hc : o_Cx p s m args meth c G cc own nL) {i : Nat} {x : Nat} (hd : decode cc pc = .ok (.astore i, 2)) (hn : i < nL) (hl' : (i, Value.ref x) :: lv.filter (fun q => !(q.1 == i) && !(q.1 + 1 == i && q.2.category == 2)) = lv')
    (kk : o_V p l e R s m args below meth c Q G kc ks nL σ (pc + 2) lv' st) : o_V p l e R s m args below meth c Q G kc ks nL σ pc lv (Value.ref x :: st) :=
  fun H locs ls hP hS hl => lv_astore hc.1 hc.2.1 hd hl hn hl' (fun ls2 h2 => kk H locs ls2 hP hS h2)
theorem r_iinc (hc : o_Cx p s m args meth c G cc own nL) {i q : Nat} {n : Int} {x v : Int32} (hd : decode cc pc = .ok (.iinc i n, 3)) (hq : lv[q]? = some (i, .int x)) (hv : x + Int32.ofInt n = v) (hn : i < nL) (hl' : (i, Value.int v) :: lv.filter (fun q => !(q.1 == i) && !(q.1 + 1 == i && q.2.category == 2)) = lv')
    (kk : o_V p l e R s m args below meth c Q G kc ks nL σ (pc + 3) lv' st) : o_V p l e R s m args below meth c Q G kc ks nL σ pc lv st :=
  fun H locs ls hP hS hl => lv_iinc hc.1 hc.2.1 hd hl hq hv hn hl' (fun ls2 h2 => kk H locs ls2 hP hS h2)
theorem r_iadd (hc : o_Cx p s m args meth c G cc own nL) {x y : Int32} (hd : decode cc pc = .ok (.iadd, 1))
    (kk : o_V p l e R s m args below meth c Q G kc ks nL σ (pc + 1) lv (.int (x + y) :: st)) : o_V p l e R s m args below meth c Q G kc ks nL σ pc lv (.int y :: .int x :: st) :=
  fun H locs ls hP hS hl => lv_iadd hc.1 hc.2.1 hd (kk H locs ls hP hS hl)
theorem r_isub (hc : o_Cx p s m args meth c G cc own nL) {x y : Int32} (hd : decode cc pc = .ok (.isub, 1))
    (kk : o_V p l e R s m args below meth c Q G kc ks nL σ (pc + 1) lv (.int (x - y) :: st)) : o_V p l e R s m args below meth c Q G kc ks nL σ pc lv (.int y :: .int x :: st) :=
  fun H locs ls hP hS hl => lv_isub hc.1 hc.2.1 hd (kk H locs ls hP hS hl)
theorem r_imul (hc : o_Cx p s m args meth c G cc own nL) {x y : Int32} (hd : decode cc pc = .ok (.imul, 1))
    (kk : o_V p l e R s m args below meth c Q G kc ks nL σ (pc + 1) lv (.int (x * y) :: st)) : o_V p l e R s m args below meth c Q G kc ks nL σ pc lv (.int y :: .int x :: st) :=
  fun H locs ls hP hS hl => lv_imul hc.1 hc.2.1 hd (kk H locs ls hP hS hl)
theorem r_iand (hc : o_Cx p s m args meth c G cc own nL) {x y : Int32} (hd : decode cc pc = .ok (.iand, 1))
    (kk : o_V p l e R s m args below meth c Q G kc ks nL σ (pc + 1) lv (.int (x &&& y) :: st)) : o_V p l e R s m args below meth c Q G kc ks nL σ pc lv (.int y :: .int x :: st) :=
  fun H locs ls hP hS hl => lv_iand hc.1 hc.2.1 hd (kk H locs ls hP hS hl)
theorem r_idiv (hc : o_Cx p s m args meth c G cc own nL) {x y : Int32} (hd : decode cc pc = .ok (.idiv, 1)) (hne : ¬ y = 0)
    (kk : o_V p l e R s m args below meth c Q G kc ks nL σ (pc + 1) lv (.int (x / y) :: st)) : o_V p l e R s m args below meth c Q G kc ks nL σ pc lv (.int y :: .int x :: st) :=
  fun H locs ls hP hS hl => lv_idiv hc.1 hc.2.1 hd hne (kk H locs ls hP hS hl)
theorem r_irem (hc : o_Cx p s m args meth c G cc own nL) {x y : Int32} (hd : decode cc pc = .ok (.irem, 1)) (hne : ¬ y = 0)
    (kk : o_V p l e R s m args below meth c Q G kc ks nL σ (pc + 1) lv (.int (x - x / y * y) :: st)) : o_V p l e R s m args below meth c Q G kc ks nL σ pc lv (.int y :: .int x :: st) :=
  fun H locs ls hP hS hl => lv_irem hc.1 hc.2.1 hd hne (kk H locs ls hP hS hl)
theorem r_ineg (hc : o_Cx p s m args meth c G cc own nL) {x : Int32} (hd : decode cc pc = .ok (.ineg, 1))
    (kk : o_V p l e R s m args below meth c Q G kc ks nL σ (pc + 1) lv (.int (-x) :: st)) : o_V p l e R s m args below meth c Q G kc ks nL σ pc lv (.int x :: st) :=
  fun H locs ls hP hS hl => lv_ineg hc.1 hc.2.1 hd (kk H locs ls hP hS hl)
theorem r_dup (hc : o_Cx p s m args meth c G cc own nL) {v : Value} (hd : decode cc pc = .ok (.dup, 1)) (hv : v.category = 1)
    (kk : o_V p l e R s m args below meth c Q G kc ks nL σ (pc + 1) lv (v :: v :: st)) : o_V p l e R s m args below meth c Q G kc ks nL σ pc lv (v :: st) :=
  fun H locs ls hP hS hl => lv_dup hc.1 hc.2.1 hd hv (kk H locs ls hP hS hl)
theorem r_dup2 (hc : o_Cx p s m args meth c G cc own nL) {v w : Value} (hd : decode cc pc = .ok (.dup2, 1)) (hv : v.category = 1) (hw : w.category = 1)
    (kk : o_V p l e R s m args below meth c Q G kc ks nL σ (pc + 1) lv (v :: w :: v :: w :: st)) : o_V p l e R s m args below meth c Q G kc ks nL σ pc lv (v :: w :: st) :=
  fun H locs ls hP hS hl => lv_dup2_11 hc.1 hc.2.1 hd hv hw (kk H locs ls hP hS hl)
theorem r_goto (hc : o_Cx p s m args meth c G cc own nL) {off : Int} {tgt : Nat} (hd : decode cc pc = .ok (.goto off, 3)) (ht : (pc : Int) + off = (tgt : Int))
    (kk : o_V p l e R s m args below meth c Q G kc ks nL σ tgt lv st) : o_V p l e R s m args below meth c Q G kc ks nL σ pc lv st :=
  fun H locs ls hP hS hl => lv_goto hc.1 hc.2.1 hd ht (kk H locs ls hP hS hl)
theorem r_icmp_eq (hc : o_Cx p s m args meth c G cc own nL) {x y : Int32} {off : Int} {tgt : Nat} (hd : decode cc pc = .ok (.if_icmp .eq off, 3)) (ht : (pc : Int) + off = (tgt : Int))
    (kt : x = y → o_V p l e R s m args below meth c Q G kc ks nL σ tgt lv st) (kf : ¬ x = y → o_V p l e R s m args below meth c Q G kc ks nL σ (pc + 3) lv st) : o_V p l e R s m args below meth c Q G kc ks nL σ pc lv (.int y :: .int x :: st) :=
  fun H locs ls hP hS hl => lv_icmp_eq hc.1 hc.2.1 hd ht (fun h => kt h H locs ls hP hS hl) (fun h => kf h H locs ls hP hS hl)
theorem r_if_eq (hc : o_Cx p s m args meth c G cc own nL) {x : Int32} {off : Int} {tgt : Nat} (hd : decode cc pc = .ok (.ifCond .eq off, 3)) (ht : (pc : Int) + off = (tgt : Int))
    (kt : x = 0 → o_V p l e R s m args below meth c Q G kc ks nL σ tgt lv st) (kf : ¬ x = 0 → o_V p l e R s m args below meth c Q G kc ks nL σ (pc + 3) lv st) : o_V p l e R s m args below meth c Q G kc ks nL σ pc lv (.int x :: st) :=
  fun H locs ls hP hS hl => lv_if_eq hc.1 hc.2.1 hd ht (fun h => kt h H locs ls hP hS hl) (fun h => kf h H locs ls hP hS hl)
theorem r_icmp_ne (hc : o_Cx p s m args meth c G cc own nL) {x y : Int32} {off : Int} {tgt : Nat} (hd : decode cc pc = .ok (.if_icmp .ne off, 3)) (ht : (pc : Int) + off = (tgt : Int))
    (kt : ¬ x = y → o_V p l e R s m args below meth c Q G kc ks nL σ tgt lv st) (kf : x = y → o_V p l e R s m args below meth c Q G kc ks nL σ (pc + 3) lv st) : o_V p l e R s m args below meth c Q G kc ks nL σ pc lv (.int y :: .int x :: st) :=
  fun H locs ls hP hS hl => lv_icmp_ne hc.1 hc.2.1 hd ht (fun h => kt h H locs ls hP hS hl) (fun h => kf h H locs ls hP hS hl)
theorem r_if_ne (hc : o_Cx p s m args meth c G cc own nL) {x : Int32} {off : Int} {tgt : Nat} (hd : decode cc pc = .ok (.ifCond .ne off, 3)) (ht : (pc : Int) + off = (tgt : Int))
    (kt : ¬ x = 0 → o_V p l e R s m args below meth c Q G kc ks nL σ tgt lv st) (kf : x = 0 → o_V p l e R s m args below meth c Q G kc ks nL σ (pc + 3) lv st) : o_V p l e R s m args below meth c Q G kc ks nL σ pc lv (.int x :: st) :=
  fun H locs ls hP hS hl => lv_if_ne hc.1 hc.2.1 hd ht (fun h => kt h H locs ls hP hS hl) (fun h => kf h H locs ls hP hS hl)
theorem r_icmp_lt (hc : o_Cx p s m args meth c G cc own nL) {x y : Int32} {off : Int} {tgt : Nat} (hd : decode cc pc = .ok (.if_icmp .lt off, 3)) (ht : (pc : Int) + off = (tgt : Int))
    (kt : x < y → o_V p l e R s m args below meth c Q G kc ks nL σ tgt lv st) (kf : ¬ x < y → o_V p l e R s m args below meth c Q G kc ks nL σ (pc + 3) lv st) : o_V p l e R s m args below meth c Q G kc ks nL σ pc lv (.int y :: .int x :: st) :=
  fun H locs ls hP hS hl => lv_icmp_lt hc.1 hc.2.1 hd ht (fun h => kt h H locs ls hP hS hl) (fun h => kf h H locs ls hP hS hl)
theorem r_if_lt (hc : o_Cx p s m args meth c G cc own nL) {x : Int32} {off : Int} {tgt : Nat} (hd : decode cc pc = .ok (.ifCond .lt off, 3)) (ht : (pc : Int) + off = (tgt : Int))
    (kt : x < 0 → o_V p l e R s m args below meth c Q G kc ks nL σ tgt lv st) (kf : ¬ x < 0 → o_V p l e R s m args below meth c Q G kc ks nL σ (pc + 3) lv st) : o_V p l e R s m args below meth c Q G kc ks nL σ pc lv (.int x :: st) :=
  fun H locs ls hP hS hl => lv_if_lt hc.1 hc.2.1 hd ht (fun h => kt h H locs ls hP hS hl) (fun h => kf h H locs ls hP hS hl)
theorem r_icmp_ge (hc : o_Cx p s m args meth c G cc own nL) {x y : Int32} {off : Int} {tgt : Nat} (hd : decode cc pc = .ok (.if_icmp .ge off, 3)) (ht : (pc : Int) + off = (tgt : Int))
    (kt : y ≤ x → o_V p l e R s m args below meth c Q G kc ks nL σ tgt lv st) (kf : ¬ y ≤ x → o_V p l e R s m args below meth c Q G kc ks nL σ (pc + 3) lv st) : o_V p l e R s m args below meth c Q G kc ks nL σ pc lv (.int y :: .int x :: st) :=
  fun H locs ls hP hS hl => lv_icmp_ge hc.1 hc.2.1 hd ht (fun h => kt h H locs ls hP hS hl) (fun h => kf h H locs ls hP hS hl)
theorem r_if_ge (hc : o_Cx p s m args meth c G cc own nL) {x : Int32} {off : Int} {tgt : Nat} (hd : decode cc pc = .ok (.ifCond .ge off, 3)) (ht : (pc : Int) + off = (tgt : Int))
    (kt : 0 ≤ x → o_V p l e R s m args below meth c Q G kc ks nL σ tgt lv st) (kf : ¬ 0 ≤ x → o_V p l e R s m args below meth c Q G kc ks nL σ (pc + 3) lv st) : o_V p l e R s m args below meth c Q G kc ks nL σ pc lv (.int x :: st) :=
  fun H locs ls hP hS hl => lv_if_ge hc.1 hc.2.1 hd ht (fun h => kt h H locs ls hP hS hl) (fun h => kf h H locs ls hP hS hl)
theorem r_icmp_gt (hc : o_Cx p s m args meth c G cc own nL) {x y : Int32} {off : Int} {tgt : Nat} (hd : decode cc pc = .ok (.if_icmp .gt off, 3)) (ht : (pc : Int) + off = (tgt : Int))
    (kt : y < x → o_V p l e R s m args below meth c Q G kc ks nL σ tgt lv st) (kf : ¬ y < x → o_V p l e R s m args below meth c Q G kc ks nL σ (pc + 3) lv st) : o_V p l e R s m args below meth c Q G kc ks nL σ pc lv (.int y :: .int x :: st) :=
  fun H locs ls hP hS hl => lv_icmp_gt hc.1 hc.2.1 hd ht (fun h => kt h H locs ls hP hS hl) (fun h => kf h H locs ls hP hS hl)
theorem r_if_gt (hc : o_Cx p s m args meth c G cc own nL) {x : Int32} {off : Int} {tgt : Nat} (hd : decode cc pc = .ok (.ifCond .gt off, 3)) (ht : (pc : Int) + off = (tgt : Int))
    (kt : 0 < x → o_V p l e R s m args below meth c Q G kc ks nL σ tgt lv st) (kf : ¬ 0 < x → o_V p l e R s m args below meth c Q G kc ks nL σ (pc + 3) lv st) : o_V p l e R s m args below meth c Q G kc ks nL σ pc lv (.int x :: st) :=
  fun H locs ls hP hS hl => lv_if_gt hc.1 hc.2.1 hd ht (fun h => kt h H locs ls hP hS hl) (fun h => kf h H locs ls hP hS hl)
theorem r_icmp_le (hc : o_Cx p s m args meth c G cc own nL) {x y : Int32} {off : Int} {tgt : Nat} (hd : decode cc pc = .ok (.if_icmp .le off, 3)) (ht : (pc : Int) + off = (tgt : Int))
    (kt : x ≤ y → o_V p l e R s m args below meth c Q G kc ks nL σ tgt lv st) (kf : ¬ x ≤ y → o_V p l e R s m args below meth c Q G kc ks nL σ (pc + 3) lv st) : o_V p l e R s m args below meth c Q G kc ks nL σ pc lv (.int y :: .int x :: st) :=
  fun H locs ls hP hS hl => lv_icmp_le hc.1 hc.2.1 hd ht (fun h => kt h H locs ls hP hS hl) (fun h => kf h H locs ls hP hS hl)
theorem r_if_le (hc : o_Cx p s m args meth c G cc own nL) {x : Int32} {off : Int} {tgt : Nat} (hd : decode cc pc = .ok (.ifCond .le off, 3)) (ht : (pc : Int) + off = (tgt : Int))
    (kt : x ≤ 0 → o_V p l e R s m args below meth c Q G kc ks nL σ tgt lv st) (kf : ¬ x ≤ 0 → o_V p l e R s m args below meth c Q G kc ks nL σ (pc + 3) lv st) : o_V p l e R s m args below meth c Q G kc ks nL σ pc lv (.int x :: st) :=
  fun H locs ls hP hS hl => lv_if_le hc.1 hc.2.1 hd ht (fun h => kt h H locs ls hP hS hl) (fun h => kf h H locs ls hP hS hl)
theorem r_ifnull (hc : o_Cx p s m args meth c G cc own nL) {x : Nat} {off : Int} (hd : decode cc pc = .ok (.ifnull off, 3))
    (kk : o_V p l e R s m args below meth c Q G kc ks nL σ (pc + 3) lv st) : o_V p l e R s m args below meth c Q G kc ks nL σ pc lv (.ref x :: st) :=
  fun H locs ls hP hS hl => lv_ifnull hc.1 hc.2.1 hd (kk H locs ls hP hS hl)
/-- fields -/
theorem r_get (hc : o_Cx p s m args meth c G cc own nL) {i ci N idx : Nat} {ref C : String} {T : u_T} {ty : Nat → FieldType} (k : Nat) {v : Value} (hK : o_KK ci C T N ty) (hi : i < gN G) (hkd : o_kd i = ci) (hk : k < N) (hw : Cond.fieldLink own idx ref (T k).2.1 (T k).2.2.1 ∈ WS) (hr : (T k).1 = ref) (hv : o_fv G σ i k = v) (hd : decode cc pc = .ok (.getfield idx, 3))
    (kk : o_V p l e R s m args below meth c Q G kc ks nL σ (pc + 3) lv (v :: st)) : o_V p l e R s m args below meth c Q G kc ks nL σ pc lv (.ref (gAd G i) :: st) :=
  fun H locs ls hP hS hl => va_get hc.1 hc.2.1 hc.2.2.2.2.1 hK.2.1 hc.2.2.2.1 hc.2.2.2.2.2.1.1 (hP.obj hi hkd hK) 0 rfl hK.1 k hk (hc.2.2.2.2.1 _ hw) (fun x h => by rw [← hr]; exact h) ((o_fvs hk).trans (congrArg some hv)) hd (kk H locs ls hP hS hl)
theorem r_getN (hc : o_Cx p s m args meth c G cc own nL) {i ci N idx : Nat} {ref C host : String} {T : u_T} {ty : Nat → FieldType} (k : Nat) {v : Value} (hK : o_KK ci C T N ty) (hi : i < gN G) (hkd : o_kd i = ci) (hk : k < N) (hw : Cond.fieldLinkNest own idx ref (T k).2.1 (T k).2.2.1 host ∈ o_N) (hr : (T k).1 = ref) (hv : o_fv G σ i k = v) (hd : decode cc pc = .ok (.getfield idx, 3))
    (kk : o_V p l e R s m args below meth c Q G kc ks nL σ (pc + 3) lv (v :: st)) : o_V p l e R s m args below meth c Q G kc ks nL σ pc lv (.ref (gAd G i) :: st) :=
  fun H locs ls hP hS hl => va_getN hc.1 hc.2.1 hc.2.2.2.2.1 hK.2.1 hc.2.2.2.1 hc.2.2.2.2.2.1.1 (hP.obj hi hkd hK) 0 rfl hK.1 k hk (o_nw hc.2.2.2.2.2.1 hw) (fun x h => by rw [← hr]; exact h) ((o_fvs hk).trans (congrArg some hv)) hd (kk H locs ls hP hS hl)
theorem o_fv_pu {G : Gt} {σ : Sg} {i k j : Nat} {x : Int32} (hk : o_rt i k = none) : o_fv G (pu σ i k x) i j = updV (o_fv G σ i) k (.int x) j := by
  unfold updV
  by_cases h : j = k
  · rw [if_pos h, h]
    unfold o_fv
    rw [hk, pu_at]
  · rw [if_neg h]
    unfold o_fv
    rw [pu_un (fun q => h q.2)]
theorem o_newO {G : Gt} {σ : Sg} {H1 : Heap} {i k ci N : Nat} {x : Int32} {C : String} {T : u_T} {ty : Nat → FieldType} (hK : o_KK ci C T N ty) (hkd : o_kd i = ci) (hk : o_rt i k = none) {cell : Cell} (e1 : H1[gAd G i]? = some cell) (e2 : cell.cls = (gD G).1 ci) (e3 : cell.vm = .none) (h : ∀ j, j < N → cell.slots[(gD G).2 ci j]? = some (updV (o_fv G σ i) k (.int x) j)) : va_at (gD G) vwCl (gAd G i, o_ce G (pu σ i k x) i) H1 := by
  rw [o_ceO hkd hK.2.2.2.2.2.1 hK.2.2.2.2.2.2, hK.2.2.2.2.1]
  refine ⟨(C, T, N), hK.1, cell, e1, e2, e3, fun j hj => ?_⟩
  rw [h j hj, ← o_fv_pu hk]
  show _ = some (vp_V _ j)
  unfold vp_V
  rw [List.getD_eq_getElem?_getD, o_fvs hj]
  rfl
theorem o_oldO {G : Gt} {σ : Sg} {H : Heap} {i ci N : Nat} {C : String} {T : u_T} {ty : Nat → FieldType} (h : o_W G σ H) (hi : i < gN G) (hkd : o_kd i = ci) (hK : o_KK ci C T N ty) : ∃ cell : Cell, H[gAd G i]? = some cell ∧ cell.cls = (gD G).1 ci ∧ cell.vm = .none ∧ ∀ j, j < N → cell.slots[(gD G).2 ci j]? = some (o_fv G σ i j) := by
  obtain ⟨r, h1, cell, q1, q2, q3, q4⟩ := h.obj hi hkd hK 0 _ rfl
  have hr : r = (C, T, N) := Option.some.inj (h1.symm.trans hK.1)
  subst hr
  refine ⟨cell, q1, q2, q3, fun j hj => ?_⟩
  rw [q4 j hj]
  show some (vp_V _ j) = _
  unfold vp_V
  rw [List.getD_eq_getElem?_getD, o_fvs hj]
  rfl
theorem r_put (hc : o_Cx p s m args meth c G cc own nL) {i ci N idx : Nat} {ref C : String} {T : u_T} {ty : Nat → FieldType} (k : Nat) {x : Int32} (hK : o_KK ci C T N ty) (hi : i < gN G) (hkd : o_kd i = ci) (hk : k < N) (hw : Cond.fieldLink own idx ref (T k).2.1 (T k).2.2.1 ∈ WS) (hr : (T k).1 = ref) (hfin : (T k).2.2.2 = false) (hrt : o_rt i k = none) (hn : narrow (ty k) (.int x) = .int x) (hf : fits (ty k) (.int x) = true) (hd : decode cc pc = .ok (.putfield idx, 3))
    (kk : o_V p l e R s m args below meth c Q G kc ks nL (pu σ i k x) (pc + 3) lv st) : o_V p l e R s m args below meth c Q G kc ks nL σ pc lv (.int x :: .ref (gAd G i) :: st) := by
  intro H locs ls hP hS hl
  obtain ⟨hx, hb, -, hown, hts, hE, -⟩ := hc
  have hap := va_apart (own := own) hts hK.2.1 ty hK.2.2.1 hK.2.2.2.1 hE.1 hK.1
  obtain ⟨cell, q1, q2, q3, q4⟩ := o_oldO hP hi hkd hK
  obtain ⟨hSl, hfc, kC, hkC, hkind⟩ := hE.1.1 ci _ hK.1
  obtain ⟨cf, kf, fi, f, hi2, hsl⟩ := hSl k hk
  have hlay := hts _ (hK.2.1 _ (u_in_lay hk))
  unfold u_lay at hlay
  rw [if_neg (by rw [hfin]; decide)] at hlay
  have hst := (u_facts hfc hkC (u_lays hts hK.2.1 hk) hi2).1
  have h6 := u_store hfc hkC hkind hlay hi2 (hK.2.2.1 k hk) hn hf
  refine W.putK hx hb (f := f) ⟨hown, hts _ hw, ⟨_, _, _, by rw [← hr]; exact hi2⟩, hst⟩ (by rw [q2]; exact h6) q1 q3 (by rw [hsl]; exact k2_hasslot (q4 k hk)) rfl rfl hd fun H1 e1 e2 e3 => ?_
  rw [hsl] at e1 ⊢
  exact kk H1 _ ls (hP.put hE.2.2.2.1 hi (o_newO hK hkd hrt e1 q2 q3 (t_set q4 hap hk _)) e3) (hS.put e2 e3 ((hE.2.2.2.2 i).2 hi)) hl
theorem r_putN (hc : o_Cx p s m args meth c G cc own nL) {i ci N idx : Nat} {ref C host : String} {T : u_T} {ty : Nat → FieldType} (k : Nat) {x : Int32} (hK : o_KK ci C T N ty) (hi : i < gN G) (hkd : o_kd i = ci) (hk : k < N) (hw : Cond.fieldLinkNest own idx ref (T k).2.1 (T k).2.2.1 host ∈ o_N) (hr : (T k).1 = ref) (hfin : (T k).2.2.2 = false) (hrt : o_rt i k = none) (hn : narrow (ty k) (.int x) = .int x) (hf : fits (ty k) (.int x) = true) (hd : decode cc pc = .ok (.putfield idx, 3))
    (kk : o_V p l e R s m args below meth c Q G kc ks nL (pu σ i k x) (pc + 3) lv st) : o_V p l e R s m args below meth c Q G kc ks nL σ pc lv (.int x :: .ref (gAd G i) :: st) := by
  intro H locs ls hP hS hl
  obtain ⟨hx, hb, -, hown, hts, hE, -⟩ := hc
  have hap := va_apart (own := own) hts hK.2.1 ty hK.2.2.1 hK.2.2.2.1 hE.1 hK.1
  obtain ⟨cell, q1, q2, q3, q4⟩ := o_oldO hP hi hkd hK
  obtain ⟨hSl, hfc, kC, hkC, hkind⟩ := hE.1.1 ci _ hK.1
  obtain ⟨cf, kf, fi, f, hi2, hsl⟩ := hSl k hk
  have hlay := hts _ (hK.2.1 _ (u_in_lay hk))
  unfold u_lay at hlay
  rw [if_neg (by rw [hfin]; decide)] at hlay
  have hst := (u_facts hfc hkC (u_lays hts hK.2.1 hk) hi2).1
  have h6 := u_store hfc hkC hkind hlay hi2 (hK.2.2.1 k hk) hn hf
  refine va_WputK hx hb (f := f) hown (o_nw hE hw) (by rw [← hr]; exact hi2) hst (by rw [q2]; exact h6) q1 q3 (by rw [hsl]; exact k2_hasslot (q4 k hk)) rfl rfl hd fun H1 e1 e2 e3 => ?_
  rw [hsl] at e1 ⊢
  exact kk H1 _ ls (hP.put hE.2.2.2.1 hi (o_newO hK hkd hrt e1 q2 q3 (t_set q4 hap hk _)) e3) (hS.put e2 e3 ((hE.2.2.2.2 i).2 hi)) hl
/-- arrays of ints -/
theorem r_iald (hc : o_Cx p s m args meth c G cc own nL) {i k : Nat} {j : Int32} (hi : i < gN G) (hkd : o_kd i = 7) (hin : vp_in j (o_len i)) (hj : j.toNatClampNeg = k) (hd : decode cc pc = .ok (.iaload, 1))
    (kk : o_V p l e R s m args below meth c Q G kc ks nL σ (pc + 1) lv (.int (σ i k) :: st)) : o_V p l e R s m args below meth c Q G kc ks nL σ pc lv (.int j :: .ref (gAd G i) :: st) := by
  subst hj
  exact fun H locs ls hP hS hl => va_iald hc.1 hc.2.1 hc.2.2.2.2.2.1.1 (hP.arr hi hkd) 0 0 rfl rfl hin hd (kk H locs ls hP hS hl)
theorem r_alen (hc : o_Cx p s m args meth c G cc own nL) {i : Nat} {v : Int32} (hi : i < gN G) (hkd : o_kd i = 7) (hv : Int32.ofNat (o_len i) = v) (hd : decode cc pc = .ok (.arraylength, 1))
    (kk : o_V p l e R s m args below meth c Q G kc ks nL σ (pc + 1) lv (.int v :: st)) : o_V p l e R s m args below meth c Q G kc ks nL σ pc lv (.ref (gAd G i) :: st) :=
  fun H locs ls hP hS hl => va_alen hc.1 hc.2.1 hc.2.2.2.2.2.1.1 (hP.arr hi hkd) 0 0 rfl rfl hv hd (kk H locs ls hP hS hl)
theorem r_iast (hc : o_Cx p s m args meth c G cc own nL) {i k : Nat} {j x : Int32} (hi : i < gN G) (hkd : o_kd i = 7) (hin : vp_in j (o_len i)) (hj : j.toNatClampNeg = k) (hd : decode cc pc = .ok (.iastore, 1))
    (kk : o_V p l e R s m args below meth c Q G kc ks nL (pu σ i k x) (pc + 1) lv st) : o_V p l e R s m args below meth c Q G kc ks nL σ pc lv (.int x :: .int j :: .ref (gAd G i) :: st) := by
  intro H locs ls hP hS hl
  subst hj
  obtain ⟨hx, hb, -, hown, hts, hE, -⟩ := hc
  have h1 := hP.arr hi hkd 0 _ rfl
  refine W.iast hx hb h1 ((hE.1.2 0 _ rfl).1 (o_len i) (fun q => .int (σ i q))) (fun q => by cases q) (by show ¬ (j < 0 ∨ (arrV _ _ _).slots.size ≤ _); rw [arrV_size]; exact hin) rfl rfl hd fun H1 e1 e2 e3 => ?_
  refine kk H1 _ ls (hP.put hE.2.2.2.1 hi ?_ e3) (hS.put e2 e3 ((hE.2.2.2.2 i).2 hi)) hl
  rw [o_ceA hkd]
  show H1[gAd G i]? = some (vp_cell _ _)
  rw [e1, vp_cell_i, vp_cell_i, arrV_store, pu_eq]
  congr 2
  funext q
  by_cases hq : q = j.toNatClampNeg
  · subst hq
    simp [updV, upd]
  · simp [updV, upd, hq]
/-- the static rows -/
theorem r_gets (hc : o_Cx p s m args meth c G cc own nL) (i : Nat) {idx : Nat} {nm : String} (h1 : 41 ≤ i) (h2 : i < 44) (hnm : o_sn i = nm) (hw : Cond.fieldLink own idx RX5 nm "[I" ∈ WS) (hd : decode cc pc = .ok (.getstatic idx, 3))
    (kk : o_V p l e R s m args below meth c Q G kc ks nL σ (pc + 3) lv (.ref (gAd G i) :: st)) : o_V p l e R s m args below meth c Q G kc ks nL σ pc lv st := by
  subst hnm
  exact fun H locs ls hP hS hl => va_gets hc.1 hc.2.1 (hc.2.2.2.2.2.1.2.2.1 i h1 h2).1 hS hc.2.2.2.1 (hc.2.2.2.2.1 _ hw) (fun x h => h) hd (kk H locs ls hP hS hl)
theorem r_getsN (hc : o_Cx p s m args meth c G cc own nL) (i : Nat) {idx : Nat} {nm host : String} (h1 : 41 ≤ i) (h2 : i < 44) (hnm : o_sn i = nm) (hw : Cond.fieldLinkNest own idx RX5 nm "[I" host ∈ o_N) (hd : decode cc pc = .ok (.getstatic idx, 3))
    (kk : o_V p l e R s m args below meth c Q G kc ks nL σ (pc + 3) lv (.ref (gAd G i) :: st)) : o_V p l e R s m args below meth c Q G kc ks nL σ pc lv st := by
  subst hnm
  exact fun H locs ls hP hS hl => va_getsN hc.1 hc.2.1 (hc.2.2.2.2.2.1.2.2.1 i h1 h2).1 hS hc.2.2.2.1 (o_nw hc.2.2.2.2.2.1 hw) (fun x h => h) hd (kk H locs ls hP hS hl)
/-- a row that is an int row of the world or a static one -/
def o_isA (i : Nat) : Prop := (i < 34 ∧ o_kd i = 7) ∨ (41 ≤ i ∧ i < 44)
def o_av (σ : Sg) (i : Nat) : Nat → Int32 := fun k => if i < 41 then σ i k else o_sv i k
theorem r_ialdG (hc : o_Cx p s m args meth c G cc own nL) {i k : Nat} {j : Int32} (hi : o_isA i) (hin : vp_in j (o_len i)) (hj : j.toNatClampNeg = k) (hd : decode cc pc = .ok (.iaload, 1))
    (kk : o_V p l e R s m args below meth c Q G kc ks nL σ (pc + 1) lv (.int (o_av σ i k) :: st)) : o_V p l e R s m args below meth c Q G kc ks nL σ pc lv (.int j :: .ref (gAd G i) :: st) := by
  rcases hi with ⟨h1, h2⟩ | ⟨h1, h2⟩
  · refine r_iald hc (o_lt hc h1) h2 hin hj hd ?_
    rw [show σ i k = o_av σ i k from (if_pos (by omega)).symm]
    exact kk
  · subst hj
    intro H locs ls hP hS hl
    refine va_ti hc.1 hc.2.1 (hc.2.2.2.2.2.1.2.2.1 i h1 h2).2 hS hin rfl hd ?_
    rw [show o_sv i j.toNatClampNeg = o_av σ i j.toNatClampNeg from (if_neg (by omega)).symm]
    exact kk H locs ls hP hS hl
theorem r_alenG (hc : o_Cx p s m args meth c G cc own nL) {i : Nat} {v : Int32} (hi : o_isA i) (hv : Int32.ofNat (o_len i) = v) (hd : decode cc pc = .ok (.arraylength, 1))
    (kk : o_V p l e R s m args below meth c Q G kc ks nL σ (pc + 1) lv (.int v :: st)) : o_V p l e R s m args below meth c Q G kc ks nL σ pc lv (.ref (gAd G i) :: st) := by
  rcases hi with ⟨h1, h2⟩ | ⟨h1, h2⟩
  · exact r_alen hc (o_lt hc h1) h2 hv hd kk
  · intro H locs ls hP hS hl
    obtain ⟨cell, a1, a2, a3, a4, a5, a6, a7⟩ := (hc.2.2.2.2.2.1.2.2.1 i h1 h2).2
    exact W.alen (n := v) hc.1 hc.2.1 (by rw [hS.2.1 _ (Array.getElem?_eq_some_iff.mp a1).1 a7]; exact a1) a2 (by rw [a5, hv]) rfl rfl hd (kk H locs ls hP hS hl)
/-- the row of the history's states -/
theorem r_aald (hc : o_Cx p s m args meth c G cc own nL) {k : Nat} {j : Int32} (hin : vp_in j 4) (hj : j.toNatClampNeg = k) (hd : decode cc pc = .ok (.aaload, 1))
    (kk : o_V p l e R s m args below meth c Q G kc ks nL σ (pc + 1) lv (.ref (gAd G (8 + 5 * k)) :: st)) : o_V p l e R s m args below meth c Q G kc ks nL σ pc lv (.int j :: .ref (gAd G 7) :: st) := by
  subst hj
  exact fun H locs ls hP hS hl => va_aldq hc.1 hc.2.1 hc.2.2.2.2.2.1.1 (hP.arq (o_lt hc (by decide))) 0 1 rfl rfl hin hd (kk H locs ls hP hS hl)
theorem r_alenQ (hc : o_Cx p s m args meth c G cc own nL) (hd : decode cc pc = .ok (.arraylength, 1))
    (kk : o_V p l e R s m args below meth c Q G kc ks nL σ (pc + 1) lv (.int 4 :: st)) : o_V p l e R s m args below meth c Q G kc ks nL σ pc lv (.ref (gAd G 7) :: st) :=
  fun H locs ls hP hS hl => va_alen hc.1 hc.2.1 hc.2.2.2.2.2.1.1 (hP.arq (o_lt hc (by decide))) 0 1 rfl rfl rfl hd (kk H locs ls hP hS hl)
/-- Math -/
theorem r_max (hc : o_Cx p s m args meth c G cc own nL) {idx : Nat} {x y : Int32} (hw : Cond.methodLink own idx Lib.Math.max.name ∈ WS) (hR : 1 ≤ R.frames) (hR2 : (st.map fun v => v.category).sum + 13 ≤ R.locals) (hcs : kc ≤ R.cells ∧ ks ≤ R.slots) (hd : decode cc pc = .ok (.invokestatic idx, 3))
    (kk : o_V p l e R s m args below meth c Q G kc ks nL σ (pc + 3) lv (.int (if x < y then y else x) :: st)) : o_V p l e R s m args below meth c Q G kc ks nL σ pc lv (.int y :: .int x :: st) :=
  fun H locs ls hP hS hl => va_mmax hc.1 hc.2.1 (hc.2.2.1.trans hl.1.symm) hc.2.2.2.1 (hc.2.2.2.2.1 _ hw) (hc.2.2.2.2.1 _ kS_Math_max) (hc.2.2.2.2.1 _ kIn_Math) (hc.2.2.2.2.1 _ kC_Math_max) hR hR2 hcs.1 hcs.2 hd (kk H locs ls hP hS hl)
theorem r_min (hc : o_Cx p s m args meth c G cc own nL) {idx : Nat} {x y : Int32} (hw : Cond.methodLink own idx Lib.Math.min.name ∈ WS) (hR : 1 ≤ R.frames) (hR2 : (st.map fun v => v.category).sum + 13 ≤ R.locals) (hcs : kc ≤ R.cells ∧ ks ≤ R.slots) (hd : decode cc pc = .ok (.invokestatic idx, 3))
    (kk : o_V p l e R s m args below meth c Q G kc ks nL σ (pc + 3) lv (.int (if y < x then y else x) :: st)) : o_V p l e R s m args below meth c Q G kc ks nL σ pc lv (.int y :: .int x :: st) :=
  fun H locs ls hP hS hl => va_mmin hc.1 hc.2.1 (hc.2.2.1.trans hl.1.symm) hc.2.2.2.1 (hc.2.2.2.2.1 _ hw) (hc.2.2.2.2.1 _ kS_Math_min) (hc.2.2.2.2.1 _ kIn_Math) (hc.2.2.2.2.1 _ kC_Math_min) hR hR2 hcs.1 hcs.2 hd (kk H locs ls hP hS hl)
theorem r_abs (hc : o_Cx p s m args meth c G cc own nL) {idx : Nat} {x : Int32} (hw : Cond.methodLink own idx Lib.Math.abs.name ∈ WS) (hR : 1 ≤ R.frames) (hR2 : (st.map fun v => v.category).sum + 13 ≤ R.locals) (hcs : kc ≤ R.cells ∧ ks ≤ R.slots) (hd : decode cc pc = .ok (.invokestatic idx, 3))
    (kk : o_V p l e R s m args below meth c Q G kc ks nL σ (pc + 3) lv (.int (if 0 ≤ x then x else 0 - x) :: st)) : o_V p l e R s m args below meth c Q G kc ks nL σ pc lv (.int x :: st) :=
  fun H locs ls hP hS hl => va_mabs hc.1 hc.2.1 (hc.2.2.1.trans hl.1.symm) hc.2.2.2.1 (hc.2.2.2.2.1 _ hw) (hc.2.2.2.2.1 _ kS_Math_abs) (hc.2.2.2.2.1 _ kIn_Math) (hc.2.2.2.2.1 _ kC_Math_abs) hR hR2 hcs.1 hcs.2 hd (kk H locs ls hP hS hl)

/-! calls -/
theorem o_preS {as : List Value} {H : Heap} {locs : List Loc} (hc : o_Cx p s m args meth c G cc own nL) (hP : o_W G σ H) (hS : va_S (o_A G) s.heap H locs) : PreS s H (o_Pc G as σ) as :=
  ⟨o_blind G as σ, fun U hU hW => ⟨rfl, hc.2.2.2.2.2.1.warm hS hU hW, by rw [hU]; exact hP⟩⟩
theorem o_preV {as : List Value} {H : Heap} {locs : List Loc} {i ci N : Nat} {C : String} {T : u_T} {ty : Nat → FieldType} (hc : o_Cx p s m args meth c G cc own nL) (hP : o_W G σ H) (hS : va_S (o_A G) s.heap H locs) (hK : o_KK ci C T N ty) (hi : i < gN G) (hkd : o_kd i = ci) : PreV s H C (gAd G i) (o_Pc G (.ref (gAd G i) :: as) σ) as :=
  ⟨o_blind G _ σ, va_recv hc.2.2.2.2.2.1.1 (hP.obj hi hkd hK) hK.1 (q0 := 0) rfl, fun U hU hW => ⟨rfl, hc.2.2.2.2.2.1.warm hS hU hW, by rw [hU]; exact hP⟩⟩
variable {y : MethodName} {bytes : ByteArray} {maxL fr lc n idx : Nat} {ret : Option FieldType} {as rest stk : List Value}
theorem o_gi (hcode : Cond.code y bytes maxL ret ∈ WS) : GoodIn WS (Cond.code y bytes maxL ret :: WS) := fun w hw => (List.mem_cons.mp hw).elim (fun e => by rw [e]; exact o_gWS _ hcode) (o_gWS w)
theorem o_cwS (hc : o_Cx p s m args meth c G cc own nL) (hm : o_MS y bytes maxL ret n) (hw : Cond.methodLink own idx y ∈ WS) (hR : fr + 1 ≤ R.frames ∧ 8 + (maxL + 11) + lc ≤ R.locals) : CallB R s args own idx y bytes maxL ret (Cond.code y bytes maxL ret :: WS) { frames := fr, cells := 0, slots := 0, locals := lc } 0 0 n ∧ (Cond.static y).before args s = true :=
  ⟨callB_of n hc.2.2.2.2.1 (o_gi hm.1) rfl rfl rfl (hc.2.2.2.2.1 _ hm.2.2.1) (hc.2.2.2.2.1 _ hw) hm.2.2.2 hR, hc.2.2.2.2.1 _ hm.2.1⟩
theorem o_cwV {C : String} (hc : o_Cx p s m args meth c G cc own nL) (hm : o_MV C y bytes maxL ret n) (hw : Cond.methodLink own idx y ∈ WS) (hR : fr + 1 ≤ R.frames ∧ 8 + (maxL + 11) + lc ≤ R.locals) : CallW R s args own C idx y bytes maxL ret (Cond.code y bytes maxL ret :: WS) { frames := fr, cells := 0, slots := 0, locals := lc } 0 0 n := by
  obtain ⟨rfl, h1, h2, h3, h4, h5⟩ := hm
  exact ⟨callB_of n hc.2.2.2.2.1 (o_gi h1) rfl rfl rfl (hc.2.2.2.2.1 _ h4) (hc.2.2.2.2.1 _ hw) h5 hR, hc.2.2.2.2.1 _ h2, hc.2.2.2.2.1 _ h3⟩
theorem o_cnS {host : String} (hc : o_Cx p s m args meth c G cc own nL) (hm : o_MS y bytes maxL ret n) (hw : Cond.methodLinkNest own idx y host ∈ o_N) (hR : fr + 1 ≤ R.frames ∧ 8 + (maxL + 11) + lc ≤ R.locals) : va_CN R s args own idx y host bytes maxL ret (Cond.code y bytes maxL ret :: WS) { frames := fr, cells := 0, slots := 0, locals := lc } 0 0 n ∧ (Cond.static y).before args s = true ∧ True :=
  ⟨va_cnB n hc.2.2.2.2.1 (o_gi hm.1) rfl rfl rfl (hc.2.2.2.2.2.1.2.1 _ hw) (hc.2.2.2.2.1 _ hm.2.2.1) hm.2.2.2 hR, hc.2.2.2.2.1 _ hm.2.1, trivial⟩
theorem o_cnV {C host : String} (hc : o_Cx p s m args meth c G cc own nL) (hm : o_MV C y bytes maxL ret n) (hw : Cond.methodLinkNest own idx y host ∈ o_N) (hR : fr + 1 ≤ R.frames ∧ 8 + (maxL + 11) + lc ≤ R.locals) : va_CN R s args own idx y host bytes maxL ret (Cond.code y bytes maxL ret :: WS) { frames := fr, cells := 0, slots := 0, locals := lc } 0 0 n ∧ (Cond.instanceMethod y).before args s = true ∧ (Cond.selects C y y).before args s = true := by
  obtain ⟨rfl, h1, h2, h3, h4, h5⟩ := hm
  exact ⟨va_cnB n hc.2.2.2.2.1 (o_gi h1) rfl rfl rfl (hc.2.2.2.2.2.1.2.1 _ hw) (hc.2.2.2.2.1 _ h4) h5 hR, hc.2.2.2.2.1 _ h2, hc.2.2.2.2.1 _ h3⟩
theorem o_fix (hc : o_Cx p s m args meth c G cc own nL) : CallFix p m c cc nL s args WS own := ⟨hc.1, hc.2.1, hc.2.2.1, hc.2.2.2.1, hc.2.2.2.2.1⟩
theorem o_endi {H : Heap} {locs : List Loc} {ls : Array Slot} {a : Array Value} {post : Int32 → Sg → Prop} (hS : va_S (o_A G) s.heap H locs) (hl : lv_has ls nL lv) (hr : va_Run p l e R s m args below meth c H locs kc ks 0 0 (F0 m pc ls stk) st (va_Qi post (fun σ' t => o_W G σ' t.heap) (o_A G) a) (o_A G))
    (kk : ∀ (r : Int32) (σ' : Sg), post r σ' → o_V p l e R s m args below meth c Q G kc ks nL σ' (pc + 3) lv (.int r :: st)) : W p l e R s m args below meth c H locs kc ks Q (F0 m pc ls stk) :=
  va_calli hr hS (fun _ _ h => h) (fun _ h => h) (fun r u t H1 locs1 ht _ hp hB _ _ hS1 => kk r u hp H1 locs1 ls (by rw [← ht]; exact hB) hS1 hl)
theorem o_endv {H : Heap} {locs : List Loc} {ls : Array Slot} {a : Array Value} {post : Sg → Prop} (hS : va_S (o_A G) s.heap H locs) (hl : lv_has ls nL lv) (hr : va_Run p l e R s m args below meth c H locs kc ks 0 0 (F0 m pc ls stk) st (va_Qv post (fun σ' t => o_W G σ' t.heap) (o_A G) a) (o_A G))
    (kk : ∀ (σ' : Sg), post σ' → o_V p l e R s m args below meth c Q G kc ks nL σ' (pc + 3) lv st) : W p l e R s m args below meth c H locs kc ks Q (F0 m pc ls stk) :=
  va_callv hr hS (fun _ _ h => h) (fun _ h => h) (fun u t H1 locs1 ht _ hp hB _ _ hS1 => kk u hp H1 locs1 ls (by rw [← ht]; exact hB) hS1 hl)
theorem o_endr {H : Heap} {locs : List Loc} {ls : Array Slot} {a : Array Value} {post : Nat → Prop} (hS : va_S (o_A G) s.heap H locs) (hl : lv_has ls nL lv) (hr : va_Run p l e R s m args below meth c H locs kc ks 0 0 (F0 m pc ls stk) st (va_Qr post (fun b a t => a = gAd G b ∧ o_W G σ t.heap) (o_A G) a) (o_A G))
    (kk : ∀ b : Nat, post b → o_V p l e R s m args below meth c Q G kc ks nL σ (pc + 3) lv (.ref (gAd G b) :: st)) : W p l e R s m args below meth c H locs kc ks Q (F0 m pc ls stk) :=
  va_callr hr hS (fun _ _ h => h) (fun _ h => h) (fun u ra t H1 locs1 ht _ hp hB _ _ hS1 => by
    obtain ⟨rfl, hB⟩ := hB
    exact kk u hp H1 locs1 ls (by rw [← ht]; exact hB) hS1 hl)
theorem r_callS_i (hc : o_Cx p s m args meth c G cc own nL) {post : Int32 → Sg → Prop}  (hM : o_Ci l G y bytes maxL ret fr lc as σ post) (hm : o_MS y bytes maxL ret n) (hw : Cond.methodLink own idx y ∈ WS) (hR : fr + 1 ≤ R.frames ∧ 8 + (maxL + 11) + lc ≤ R.locals) (hcs : kc + 0 ≤ R.cells ∧ ks + 0 ≤ R.slots) (hn : as.length = n) (hstk : stk = as.reverse ++ st) (hroom : (st.map fun v => v.category).sum ≤ 8) (hd : decode cc pc = .ok (.invokestatic idx, 3))
    (kk : ∀ (r : Int32) (σ' : Sg), post r σ' → o_V p l e R s m args below meth c Q G kc ks nL σ' (pc + 3) lv (.int r :: st)) : o_V p l e R s m args below meth c Q G kc ks nL σ pc lv stk := by
  intro H locs ls hP hS hl
  exact o_endi hS hl (va_runS (g := F0 m pc ls stk) (o_fix hc) hM (o_cwS hc hm hw hR) (o_preS hc hP hS) rfl hn hl.1 hstk (lv_room hroom) hd hcs) kk
theorem r_callS_v (hc : o_Cx p s m args meth c G cc own nL) {post : Sg → Prop}  (hM : o_Cv l G y bytes maxL fr lc as σ post) (hm : o_MS y bytes maxL none n) (hw : Cond.methodLink own idx y ∈ WS) (hR : fr + 1 ≤ R.frames ∧ 8 + (maxL + 11) + lc ≤ R.locals) (hcs : kc + 0 ≤ R.cells ∧ ks + 0 ≤ R.slots) (hn : as.length = n) (hstk : stk = as.reverse ++ st) (hroom : (st.map fun v => v.category).sum ≤ 8) (hd : decode cc pc = .ok (.invokestatic idx, 3))
    (kk : ∀ σ' : Sg, post σ' → o_V p l e R s m args below meth c Q G kc ks nL σ' (pc + 3) lv st) : o_V p l e R s m args below meth c Q G kc ks nL σ pc lv stk := by
  intro H locs ls hP hS hl
  exact o_endv hS hl (va_runS (g := F0 m pc ls stk) (o_fix hc) hM (o_cwS hc hm hw hR) (o_preS hc hP hS) rfl hn hl.1 hstk (lv_room hroom) hd hcs) kk
theorem r_callSN_i (hc : o_Cx p s m args meth c G cc own nL) {post : Int32 → Sg → Prop}  (hM : o_Ci l G y bytes maxL ret fr lc as σ post) (hm : o_MS y bytes maxL ret n) {host : String} (hw : Cond.methodLinkNest own idx y host ∈ o_N) (hR : fr + 1 ≤ R.frames ∧ 8 + (maxL + 11) + lc ≤ R.locals) (hcs : kc + 0 ≤ R.cells ∧ ks + 0 ≤ R.slots) (hn : as.length = n) (hstk : stk = as.reverse ++ st) (hroom : (st.map fun v => v.category).sum ≤ 8) (hd : decode cc pc = .ok (.invokestatic idx, 3))
    (kk : ∀ (r : Int32) (σ' : Sg), post r σ' → o_V p l e R s m args below meth c Q G kc ks nL σ' (pc + 3) lv (.int r :: st)) : o_V p l e R s m args below meth c Q G kc ks nL σ pc lv stk := by
  intro H locs ls hP hS hl
  exact o_endi hS hl (va_runSN (g := F0 m pc ls stk) (o_fix hc) hM (o_cnS hc hm hw hR) (o_preS hc hP hS) rfl hn hl.1 hstk (lv_room hroom) hd hcs) kk
theorem r_callSN_v (hc : o_Cx p s m args meth c G cc own nL) {post : Sg → Prop}  (hM : o_Cv l G y bytes maxL fr lc as σ post) (hm : o_MS y bytes maxL none n) {host : String} (hw : Cond.methodLinkNest own idx y host ∈ o_N) (hR : fr + 1 ≤ R.frames ∧ 8 + (maxL + 11) + lc ≤ R.locals) (hcs : kc + 0 ≤ R.cells ∧ ks + 0 ≤ R.slots) (hn : as.length = n) (hstk : stk = as.reverse ++ st) (hroom : (st.map fun v => v.category).sum ≤ 8) (hd : decode cc pc = .ok (.invokestatic idx, 3))
    (kk : ∀ σ' : Sg, post σ' → o_V p l e R s m args below meth c Q G kc ks nL σ' (pc + 3) lv st) : o_V p l e R s m args below meth c Q G kc ks nL σ pc lv stk := by
  intro H locs ls hP hS hl
  exact o_endv hS hl (va_runSN (g := F0 m pc ls stk) (o_fix hc) hM (o_cnS hc hm hw hR) (o_preS hc hP hS) rfl hn hl.1 hstk (lv_room hroom) hd hcs) kk
theorem r_callV_i (hc : o_Cx p s m args meth c G cc own nL) {post : Int32 → Sg → Prop} {i ci N : Nat} {C : String} {T : u_T} {ty : Nat → FieldType} (hM : o_Ci l G y bytes maxL ret fr lc (.ref (gAd G i) :: as) σ post) (hK : o_KK ci C T N ty) (hi : i < gN G) (hkd : o_kd i = ci) (hm : o_MV C y bytes maxL ret n) (hw : Cond.methodLink own idx y ∈ WS) (hR : fr + 1 ≤ R.frames ∧ 8 + (maxL + 11) + lc ≤ R.locals) (hcs : kc + 0 ≤ R.cells ∧ ks + 0 ≤ R.slots) (hn : as.length = n) (hstk : stk = as.reverse ++ .ref (gAd G i) :: st) (hroom : (st.map fun v => v.category).sum ≤ 8) (hd : decode cc pc = .ok (.invokevirtual idx, 3))
    (kk : ∀ (r : Int32) (σ' : Sg), post r σ' → o_V p l e R s m args below meth c Q G kc ks nL σ' (pc + 3) lv (.int r :: st)) : o_V p l e R s m args below meth c Q G kc ks nL σ pc lv stk := by
  intro H locs ls hP hS hl
  exact o_endi hS hl (va_runV (g := F0 m pc ls stk) (o_fix hc) hM (o_cwV hc hm hw hR) (o_preV hc hP hS hK hi hkd) rfl hn hl.1 hstk (lv_room hroom) hd hcs) kk
theorem r_callV_v (hc : o_Cx p s m args meth c G cc own nL) {post : Sg → Prop} {i ci N : Nat} {C : String} {T : u_T} {ty : Nat → FieldType} (hM : o_Cv l G y bytes maxL fr lc (.ref (gAd G i) :: as) σ post) (hK : o_KK ci C T N ty) (hi : i < gN G) (hkd : o_kd i = ci) (hm : o_MV C y bytes maxL none n) (hw : Cond.methodLink own idx y ∈ WS) (hR : fr + 1 ≤ R.frames ∧ 8 + (maxL + 11) + lc ≤ R.locals) (hcs : kc + 0 ≤ R.cells ∧ ks + 0 ≤ R.slots) (hn : as.length = n) (hstk : stk = as.reverse ++ .ref (gAd G i) :: st) (hroom : (st.map fun v => v.category).sum ≤ 8) (hd : decode cc pc = .ok (.invokevirtual idx, 3))
    (kk : ∀ σ' : Sg, post σ' → o_V p l e R s m args below meth c Q G kc ks nL σ' (pc + 3) lv st) : o_V p l e R s m args below meth c Q G kc ks nL σ pc lv stk := by
  intro H locs ls hP hS hl
  exact o_endv hS hl (va_runV (g := F0 m pc ls stk) (o_fix hc) hM (o_cwV hc hm hw hR) (o_preV hc hP hS hK hi hkd) rfl hn hl.1 hstk (lv_room hroom) hd hcs) kk
theorem r_callV_r (hc : o_Cx p s m args meth c G cc own nL) {post : Nat → Prop} {i ci N : Nat} {C : String} {T : u_T} {ty : Nat → FieldType} (hM : o_Cr l G y bytes maxL ret fr lc (.ref (gAd G i) :: as) σ post) (hK : o_KK ci C T N ty) (hi : i < gN G) (hkd : o_kd i = ci) (hm : o_MV C y bytes maxL ret n) (hw : Cond.methodLink own idx y ∈ WS) (hR : fr + 1 ≤ R.frames ∧ 8 + (maxL + 11) + lc ≤ R.locals) (hcs : kc + 0 ≤ R.cells ∧ ks + 0 ≤ R.slots) (hn : as.length = n) (hstk : stk = as.reverse ++ .ref (gAd G i) :: st) (hroom : (st.map fun v => v.category).sum ≤ 8) (hd : decode cc pc = .ok (.invokevirtual idx, 3))
    (kk : ∀ b : Nat, post b → o_V p l e R s m args below meth c Q G kc ks nL σ (pc + 3) lv (.ref (gAd G b) :: st)) : o_V p l e R s m args below meth c Q G kc ks nL σ pc lv stk := by
  intro H locs ls hP hS hl
  exact o_endr hS hl (va_runV (g := F0 m pc ls stk) (o_fix hc) hM (o_cwV hc hm hw hR) (o_preV hc hP hS hK hi hkd) rfl hn hl.1 hstk (lv_room hroom) hd hcs) kk
theorem r_callVN_i (hc : o_Cx p s m args meth c G cc own nL) {post : Int32 → Sg → Prop} {i ci N : Nat} {C : String} {T : u_T} {ty : Nat → FieldType} (hM : o_Ci l G y bytes maxL ret fr lc (.ref (gAd G i) :: as) σ post) (hK : o_KK ci C T N ty) (hi : i < gN G) (hkd : o_kd i = ci) (hm : o_MV C y bytes maxL ret n) {host : String} (hw : Cond.methodLinkNest own idx y host ∈ o_N) (hR : fr + 1 ≤ R.frames ∧ 8 + (maxL + 11) + lc ≤ R.locals) (hcs : kc + 0 ≤ R.cells ∧ ks + 0 ≤ R.slots) (hn : as.length = n) (hstk : stk = as.reverse ++ .ref (gAd G i) :: st) (hroom : (st.map fun v => v.category).sum ≤ 8) (hd : decode cc pc = .ok (.invokevirtual idx, 3))
    (kk : ∀ (r : Int32) (σ' : Sg), post r σ' → o_V p l e R s m args below meth c Q G kc ks nL σ' (pc + 3) lv (.int r :: st)) : o_V p l e R s m args below meth c Q G kc ks nL σ pc lv stk := by
  intro H locs ls hP hS hl
  exact o_endi hS hl (va_runVN (g := F0 m pc ls stk) (o_fix hc) hM (o_cnV hc hm hw hR) (o_preV hc hP hS hK hi hkd) rfl hn hl.1 hstk (lv_room hroom) hd hcs) kk
theorem r_callVN_v (hc : o_Cx p s m args meth c G cc own nL) {post : Sg → Prop} {i ci N : Nat} {C : String} {T : u_T} {ty : Nat → FieldType} (hM : o_Cv l G y bytes maxL fr lc (.ref (gAd G i) :: as) σ post) (hK : o_KK ci C T N ty) (hi : i < gN G) (hkd : o_kd i = ci) (hm : o_MV C y bytes maxL none n) {host : String} (hw : Cond.methodLinkNest own idx y host ∈ o_N) (hR : fr + 1 ≤ R.frames ∧ 8 + (maxL + 11) + lc ≤ R.locals) (hcs : kc + 0 ≤ R.cells ∧ ks + 0 ≤ R.slots) (hn : as.length = n) (hstk : stk = as.reverse ++ .ref (gAd G i) :: st) (hroom : (st.map fun v => v.category).sum ≤ 8) (hd : decode cc pc = .ok (.invokevirtual idx, 3))
    (kk : ∀ σ' : Sg, post σ' → o_V p l e R s m args below meth c Q G kc ks nL σ' (pc + 3) lv st) : o_V p l e R s m args below meth c Q G kc ks nL σ pc lv stk := by
  intro H locs ls hP hS hl
  exact o_endv hS hl (va_runVN (g := F0 m pc ls stk) (o_fix hc) hM (o_cnV hc hm hw hR) (o_preV hc hP hS hK hi hkd) rfl hn hl.1 hstk (lv_room hroom) hd hcs) kk
/-! a method's entry and its ends -/
theorem o_Ci.of {post : Int32 → Sg → Prop} (hy : plainName y.cls = true) (hn : (lg_sl as).length ≤ maxL)
    (body : ∀ (p : Program) (e : Env) (s : State) (m : MethodId) (args : Array Value) (below : List Frame) (meth : Method) (c : Code), o_Cx p s m args meth c G bytes y.cls maxL → meth.sig.returnType = ret → o_V p l e { frames := fr, cells := 0, slots := 0, locals := lc } s m args below meth c (MQ below (va_Qi post (fun σ' t => o_W G σ' t.heap) (o_A G)) args s 0 0 (o_A G)) G 0 0 maxL σ 0 (lv_args 0 as) []) : o_Ci l G y bytes maxL ret fr lc as σ post := by
  refine Met.ofW (cc := bytes) (maxL := maxL) (ret := ret) hy rfl ?_
  intro p e s m args below meth c s₁ B hml hv
  obtain ⟨rfl, hE, hP⟩ := hv
  have hts := atoms_spec (ws := Cond.code y bytes maxL ret :: WS) B.pre
  rw [lg_entry_eq]
  exact body p e s m _ below meth c ⟨B.exec, B.bytes, hml, findClass_of_methodNamed B.named, fun w hw => hts w (List.mem_cons_of_mem _ hw), hE, B.notSynchronized⟩ B.returns s.heap [] _ hP va_S.rf (lv_entry as hn)
theorem o_Cv.of {post : Sg → Prop} (hy : plainName y.cls = true) (hn : (lg_sl as).length ≤ maxL)
    (body : ∀ (p : Program) (e : Env) (s : State) (m : MethodId) (args : Array Value) (below : List Frame) (meth : Method) (c : Code), o_Cx p s m args meth c G bytes y.cls maxL → meth.sig.returnType = none → o_V p l e { frames := fr, cells := 0, slots := 0, locals := lc } s m args below meth c (MQ below (va_Qv post (fun σ' t => o_W G σ' t.heap) (o_A G)) args s 0 0 (o_A G)) G 0 0 maxL σ 0 (lv_args 0 as) []) : o_Cv l G y bytes maxL fr lc as σ post := by
  refine Met.ofW (cc := bytes) (maxL := maxL) (ret := none) hy rfl ?_
  intro p e s m args below meth c s₁ B hml hv
  obtain ⟨rfl, hE, hP⟩ := hv
  have hts := atoms_spec (ws := Cond.code y bytes maxL none :: WS) B.pre
  rw [lg_entry_eq]
  exact body p e s m _ below meth c ⟨B.exec, B.bytes, hml, findClass_of_methodNamed B.named, fun w hw => hts w (List.mem_cons_of_mem _ hw), hE, B.notSynchronized⟩ B.returns s.heap [] _ hP va_S.rf (lv_entry as hn)
theorem o_Cr.of {post : Nat → Prop} (hy : plainName y.cls = true) (hn : (lg_sl as).length ≤ maxL)
    (body : ∀ (p : Program) (e : Env) (s : State) (m : MethodId) (args : Array Value) (below : List Frame) (meth : Method) (c : Code), o_Cx p s m args meth c G bytes y.cls maxL → meth.sig.returnType = ret → o_V p l e { frames := fr, cells := 0, slots := 0, locals := lc } s m args below meth c (MQ below (va_Qr post (fun b a t => a = gAd G b ∧ o_W G σ t.heap) (o_A G)) args s 0 0 (o_A G)) G 0 0 maxL σ 0 (lv_args 0 as) []) : o_Cr l G y bytes maxL ret fr lc as σ post := by
  refine Met.ofW (cc := bytes) (maxL := maxL) (ret := ret) hy rfl ?_
  intro p e s m args below meth c s₁ B hml hv
  obtain ⟨rfl, hE, hP⟩ := hv
  have hts := atoms_spec (ws := Cond.code y bytes maxL ret :: WS) B.pre
  rw [lg_entry_eq]
  exact body p e s m _ below meth c ⟨B.exec, B.bytes, hml, findClass_of_methodNamed B.named, fun w hw => hts w (List.mem_cons_of_mem _ hw), hE, B.notSynchronized⟩ B.returns s.heap [] _ hP va_S.rf (lv_entry as hn)
theorem r_iret (hc : o_Cx p s m args meth c G cc own nL) {post : Int32 → Sg → Prop} {v : Int32} {ty : FieldType} (hr : meth.sig.returnType = some ty) (hn : narrow ty (.int v) = .int v) (hd : decode cc pc = .ok (.ireturn, 1)) (hp : post v σ) : o_V p l e R s m args below meth c (MQ below (va_Qi post (fun σ' t => o_W G σ' t.heap) (o_A G)) args s kc ks (o_A G)) G kc ks nL σ pc lv [.int v] :=
  fun H locs ls hP hS hl => W.zret hc.1 hc.2.1 hr hn (fun t ht hW => ⟨⟨v, σ, rfl, hp, by show o_W G σ t.heap; rw [ht]; exact hP⟩, hS.F ht⟩) hS.2.2 hd hc.2.2.2.2.2.2
theorem r_vret (hc : o_Cx p s m args meth c G cc own nL) {post : Sg → Prop} (hr : meth.sig.returnType = none) (hd : decode cc pc = .ok (.return_, 1)) (hp : post σ) : o_V p l e R s m args below meth c (MQ below (va_Qv post (fun σ' t => o_W G σ' t.heap) (o_A G)) args s kc ks (o_A G)) G kc ks nL σ pc lv [] :=
  fun H locs ls hP hS hl => W.vret hc.1 hc.2.1 hr (fun t ht hW => ⟨⟨σ, rfl, hp, by show o_W G σ t.heap; rw [ht]; exact hP⟩, hS.F ht⟩) hS.2.2 hd hc.2.2.2.2.2.2
theorem r_aret (hc : o_Cx p s m args meth c G cc own nL) {post : Nat → Prop} {b : Nat} {C : String} {σ0 : Sg} (hr : meth.sig.returnType = some (.object C)) (hd : decode cc pc = .ok (.areturn, 1)) (hs : σ0 = σ) (hp : post b) : o_V p l e R s m args below meth c (MQ below (va_Qr post (fun b a t => a = gAd G b ∧ o_W G σ0 t.heap) (o_A G)) args s kc ks (o_A G)) G kc ks nL σ pc lv [.ref (gAd G b)] := by
  subst hs
  exact fun H locs ls hP hS hl => W.aret hc.1 hc.2.1 hr (Or.inl ⟨_, rfl⟩) (Or.inr ⟨_, rfl⟩) (fun t ht hW => ⟨⟨b, gAd G b, rfl, hp, rfl, by show o_W G σ0 t.heap; rw [ht]; exact hP⟩, hS.F ht⟩) hS.2.2 hd hc.2.2.2.2.2.2
theorem o_V.sub (h : o_V p l e R s m args below meth c Q G kc ks nL σ pc lv' st) (is : List Nat) (hs : lv_pick lv is = lv') : o_V p l e R s m args below meth c Q G kc ks nL σ pc lv st :=
  fun H locs ls hP hS hl => h H locs ls hP hS (lv_sub hl is hs)
end ROWS
