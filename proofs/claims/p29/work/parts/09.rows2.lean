
/-- a choice whose condition nobody computes -/
noncomputable def o_ite {α : Type} (c : Prop) (a b : α) : α := @ite α c (Classical.propDecidable c) a b
theorem o_itp {α : Type} {c : Prop} {a b : α} (h : c) : o_ite c a b = a := @if_pos c (Classical.propDecidable c) h α a b
theorem o_itn {α : Type} {c : Prop} {a b : α} (h : ¬ c) : o_ite c a b = b := @if_neg c (Classical.propDecidable c) h α a b
theorem o_itd {α : Type} {c : Prop} [Decidable c] {a b : α} : o_ite c a b = if c then a else b := by
  by_cases h : c
  · rw [o_itp h, if_pos h]
  · rw [o_itn h, if_neg h]
theorem o_qp {α : Type} {P : α → Prop} {c : Prop} {A B : α} (h : ∀ a : α, a = o_ite c A B → P a) (hc : c) : ∀ a : α, a = A → P a := fun a e => h a (e.trans (o_itp hc).symm)
theorem o_qn {α : Type} {P : α → Prop} {c : Prop} {A B : α} (h : ∀ a : α, a = o_ite c A B → P a) (hc : ¬ c) : ∀ a : α, a = B → P a := fun a e => h a (e.trans (o_itn hc).symm)
theorem o_cs (c : Prop) [Decidable c] {X : Prop} (kt : c → X) (kf : ¬ c → X) : X := if h : c then kt h else kf h
/-- fuel for every loop -/
def oF : Nat := 5000
section ROWS2
variable {p : Program} {l : Launch} {e : Env} {R : Room} {s : State} {m : MethodId} {args : Array Value} {below : List Frame} {meth : Method} {c : Code} {Q : State → Prop} {G : Gt} {kc ks nL : Nat} {σ : Sg} {pc : Nat} {lv : List (Nat × Value)} {st : List Value} {cc : ByteArray} {own : String}
theorem r_geti (hc : o_Cx p s m args meth c G cc own nL) {i ci N idx : Nat} {ref C : String}  {T : u_T} {ty : Nat → FieldType} (k : Nat) (hK : o_KK ci C T N ty) (hi : i < gN G) (hkd : o_kd i = ci) (hk : k < N) (hw : Cond.fieldLink own idx ref (T k).2.1 (T k).2.2.1 ∈ WS) (hr : (T k).1 = ref) (hv : o_rt i k = none) (hd : decode cc pc = .ok (.getfield idx, 3)) (kk : o_V p l e R s m args below meth c Q G kc ks nL σ (pc + 3) lv (.int (σ i k) :: st)) : o_V p l e R s m args below meth c Q G kc ks nL σ pc lv (.ref (gAd G i) :: st) :=
  r_get hc k hK hi hkd hk hw hr (by unfold o_fv; rw [hv]) hd kk
theorem r_getr (hc : o_Cx p s m args meth c G cc own nL) {i ci N idx j : Nat} {ref C : String}  {T : u_T} {ty : Nat → FieldType} (k : Nat) (hK : o_KK ci C T N ty) (hi : i < gN G) (hkd : o_kd i = ci) (hk : k < N) (hw : Cond.fieldLink own idx ref (T k).2.1 (T k).2.2.1 ∈ WS) (hr : (T k).1 = ref) (hv : o_rt i k = some j) (hd : decode cc pc = .ok (.getfield idx, 3)) (kk : o_V p l e R s m args below meth c Q G kc ks nL σ (pc + 3) lv (.ref (gAd G j) :: st)) : o_V p l e R s m args below meth c Q G kc ks nL σ pc lv (.ref (gAd G i) :: st) :=
  r_get hc k hK hi hkd hk hw hr (by unfold o_fv; rw [hv]) hd kk
theorem r_getiN (hc : o_Cx p s m args meth c G cc own nL) {i ci N idx : Nat} {ref C : String} {host : String} {T : u_T} {ty : Nat → FieldType} (k : Nat) (hK : o_KK ci C T N ty) (hi : i < gN G) (hkd : o_kd i = ci) (hk : k < N) (hw : Cond.fieldLinkNest own idx ref (T k).2.1 (T k).2.2.1 host ∈ o_N) (hr : (T k).1 = ref) (hv : o_rt i k = none) (hd : decode cc pc = .ok (.getfield idx, 3)) (kk : o_V p l e R s m args below meth c Q G kc ks nL σ (pc + 3) lv (.int (σ i k) :: st)) : o_V p l e R s m args below meth c Q G kc ks nL σ pc lv (.ref (gAd G i) :: st) :=
  r_getN hc k hK hi hkd hk hw hr (by unfold o_fv; rw [hv]) hd kk
theorem r_getrN (hc : o_Cx p s m args meth c G cc own nL) {i ci N idx j : Nat} {ref C : String} {host : String} {T : u_T} {ty : Nat → FieldType} (k : Nat) (hK : o_KK ci C T N ty) (hi : i < gN G) (hkd : o_kd i = ci) (hk : k < N) (hw : Cond.fieldLinkNest own idx ref (T k).2.1 (T k).2.2.1 host ∈ o_N) (hr : (T k).1 = ref) (hv : o_rt i k = some j) (hd : decode cc pc = .ok (.getfield idx, 3)) (kk : o_V p l e R s m args below meth c Q G kc ks nL σ (pc + 3) lv (.ref (gAd G j) :: st)) : o_V p l e R s m args below meth c Q G kc ks nL σ pc lv (.ref (gAd G i) :: st) :=
  r_getN hc k hK hi hkd hk hw hr (by unfold o_fv; rw [hv]) hd kk
theorem r_tabIn (hc : o_Cx p s m args meth c G cc own nL) {dflt lo hi : Int} {offs : Array Int} {len : Nat} {x k : Int32} {off : Int} {tgt : Nat} (hd : decode cc pc = .ok (.tableswitch dflt lo hi offs, len)) (hx : x = k) (h1 : ¬ k.toInt < lo) (h2 : ¬ hi < k.toInt) (ho : offs[(k.toInt - lo).toNat]? = some off) (ht : (pc : Int) + off = (tgt : Int))
    (kk : o_V p l e R s m args below meth c Q G kc ks nL σ tgt lv st) : o_V p l e R s m args below meth c Q G kc ks nL σ pc lv (.int x :: st) := by
  subst hx
  exact fun H locs ls hP hS hl => lv_tableIn hc.1 hc.2.1 hd h1 h2 ho ht (kk H locs ls hP hS hl)
theorem r_tabOut (hc : o_Cx p s m args meth c G cc own nL) {dflt lo hi : Int} {offs : Array Int} {len : Nat} {x : Int32} {tgt : Nat} (hd : decode cc pc = .ok (.tableswitch dflt lo hi offs, len)) (h : x.toInt < lo ∨ hi < x.toInt) (ht : (pc : Int) + dflt = (tgt : Int))
    (kk : o_V p l e R s m args below meth c Q G kc ks nL σ tgt lv st) : o_V p l e R s m args below meth c Q G kc ks nL σ pc lv (.int x :: st) :=
  fun H locs ls hP hS hl => lv_tableOut hc.1 hc.2.1 hd h ht (kk H locs ls hP hS hl)
theorem r_lookOut (hc : o_Cx p s m args meth c G cc own nL) {dflt : Int} {ps : Array (Int × Int)} {len : Nat} {x : Int32} {off : Int} {tgt : Nat} (hd : decode cc pc = .ok (.lookupswitch dflt ps, len)) (hp : (ps.toList.zip (ps.toList.drop 1)).all (fun (a, next) => a.1 < next.1) = true) (ho : Op.lookupswitch.offset ps.toList dflt x.toInt = off) (ht : (pc : Int) + off = (tgt : Int))
    (kk : o_V p l e R s m args below meth c Q G kc ks nL σ tgt lv st) : o_V p l e R s m args below meth c Q G kc ks nL σ pc lv (.int x :: st) :=
  fun H locs ls hP hS hl => lv_lookup hc.1 hc.2.1 hd hp ho ht (kk H locs ls hP hS hl)
theorem r_lookIn (hc : o_Cx p s m args meth c G cc own nL) {dflt : Int} {ps : Array (Int × Int)} {len : Nat} {x k : Int32} {off : Int} {tgt : Nat} (hd : decode cc pc = .ok (.lookupswitch dflt ps, len)) (hx : x = k) (hp : (ps.toList.zip (ps.toList.drop 1)).all (fun (a, next) => a.1 < next.1) = true) (ho : Op.lookupswitch.offset ps.toList dflt k.toInt = off) (ht : (pc : Int) + off = (tgt : Int))
    (kk : o_V p l e R s m args below meth c Q G kc ks nL σ tgt lv st) : o_V p l e R s m args below meth c Q G kc ks nL σ pc lv (.int x :: st) := by
  subst hx
  exact r_lookOut hc hd hp ho ht kk
end ROWS2
