/-! THE WORLD: 34 cells after the constructor, all references constant; sigma i k = the int at place k of cell i.
 0 VernierEncoder; 1 now (2 settings 3 errors 4 noises 5 corrections); 6 history, 7 its row; 8 13 18 23 states (each with 4 rows behind it);
 28 finding; 29 trial; 30 entries (31 characters 32 table 33 named); 34 a row of the law's own, where gN says 35; 41 42 43 the static rows -/
abbrev Sg : Type := Nat → Nat → Int32
abbrev Gt : Type := Nat × (Nat → Nat) × va_G × ClassId × ClassId × Nat
abbrev gLo (G : Gt) : Nat := G.1
abbrev gAd (G : Gt) : Nat → Nat := G.2.1
abbrev gD (G : Gt) : va_G := G.2.2.1
abbrev gI (G : Gt) : ClassId := G.2.2.2.1
abbrev gO (G : Gt) : ClassId := G.2.2.2.2.1
abbrev gN (G : Gt) : Nat := G.2.2.2.2.2
def o_A (G : Gt) : Nat → Prop := fun q => gLo G ≤ q
def o_kd (i : Nat) : Nat := [5, 3, 7, 7, 7, 7, 2, 8, 3, 7, 7, 7, 7, 3, 7, 7, 7, 7, 3, 7, 7, 7, 7, 3, 7, 7, 7, 7, 1, 4, 0, 7, 7, 7, 7].getD i 9
def o_len (i : Nat) : Nat := [0, 0, 4, 24, 3, 24, 0, 4, 0, 4, 24, 3, 24, 0, 4, 24, 3, 24, 0, 4, 24, 3, 24, 0, 4, 24, 3, 24, 0, 0, 0, 60, 24, 24, 3, 0, 0, 0, 0, 0, 0, 3, 4, 4].getD i 0
def o_rt (i k : Nat) : Option Nat := match o_kd i with
  | 3 => if 7 ≤ k then some (i + (k - 6)) else none
  | 5 => some ([1, 6, 28, 29, 30].getD k 0)
  | 2 => if k = 0 then some 7 else none
  | 0 => if k = 0 then some 31 else if k = 2 then some 32 else if k = 3 then some 33 else none
  | _ => none
def o_nf (c : Nat) : Nat := [7, 4, 3, 11, 4, 5].getD c 0
def o_fv (G : Gt) (σ : Sg) (i k : Nat) : Value := match o_rt i k with
  | some j => .ref (gAd G j)
  | none => .int (σ i k)
def o_ce (G : Gt) (σ : Sg) (i : Nat) : va_E := if o_kd i = 7 then .inl (gI G, o_len i, .inl (σ i)) else if o_kd i = 8 then .inl (gO G, 4, .inr (.inr (.inr (.inr (fun j => some (gAd G (8 + 5 * j))))))) else .inr (o_kd i, (List.range (o_nf (o_kd i))).map (o_fv G σ i))
def o_W (G : Gt) (σ : Sg) (H : Heap) : Prop := ∀ i, i < gN G → va_at (gD G) vwCl (gAd G i, o_ce G σ i) H
def pu (σ : Sg) (i k : Nat) (x : Int32) : Sg := fun i' k' => if i' = i then (if k' = k then x else σ i k') else σ i' k'
theorem pu_ne {σ : Sg} {i k j : Nat} {x : Int32} (h : j ≠ i) : pu σ i k x j = σ j := funext fun k' => if_neg h
theorem pu_eq {σ : Sg} {i k : Nat} {x : Int32} : pu σ i k x i = upd (σ i) k x := funext fun k' => if_pos rfl
theorem pu_at {σ : Sg} {i k : Nat} {x : Int32} : pu σ i k x i k = x := by simp [pu]
theorem pu_un {σ : Sg} {i k i' k' : Nat} {x : Int32} (h : ¬ (i' = i ∧ k' = k)) : pu σ i k x i' k' = σ i' k' := by
  unfold pu
  by_cases h1 : i' = i
  · rw [if_pos h1, if_neg (fun h2 => h ⟨h1, h2⟩), h1]
  · rw [if_neg h1]
theorem o_fv_c {G : Gt} {σ σ' : Sg} {i : Nat} (h : σ i = σ' i) : o_fv G σ i = o_fv G σ' i := by
  funext k
  unfold o_fv
  rw [h]
theorem o_ce_c {G : Gt} {σ σ' : Sg} {i : Nat} (h : σ i = σ' i) : o_ce G σ i = o_ce G σ' i := by
  unfold o_ce
  rw [h, o_fv_c h]
def o_sv (i : Nat) : Nat → Int32 := fun k => if i = 41 then [272, 255, 240].getD k 0 else if i = 42 then [0, 0, 1, -31].getD k 0 else [40, 32, 4080, 31].getD k 0
def o_sn (i : Nat) : String := if i = 41 then "LENGTHS" else if i = 42 then "LEAST_SETTINGS" else "GREATEST_SETTINGS"
def o_St (G : Gt) (U : State) (H : Heap) : Prop := ∀ i, 41 ≤ i → i < 44 → va_Z RX5 (o_sn i) "[I" (.ref (gAd G i)) (o_A G) U H ∧ va_T .int (gAd G i) (o_len i) (fun k => .int (o_sv i k)) (o_A G) U H
def o_En (G : Gt) (U : State) : Prop := va_K (gD G) vwCl [(gI G, .int), (gO G, .object RX3)] U ∧ (∀ w ∈ o_N, va_Nw w U) ∧ o_St G U U.heap ∧ (∀ i j, i < gN G → j < gN G → gAd G i = gAd G j → i = j) ∧ ∀ i, (i < 34 → i < gN G) ∧ (i < gN G → gLo G ≤ gAd G i)
theorem o_nwW {w : Cond} {s U : State} (hw : w ∈ o_N) (hW : s.WarmedH U.vm) (h : va_Nw w s) : va_Nw w U := by
  have h1 := (List.mem_filter.mp hw).2
  cases w <;> first | exact va_Nw.warmF hW h | exact va_Nw.warmM hW h | cases h1
theorem o_nwT {w : Cond} (hw : w ∈ o_N) : w.onTables = true := by
  have h1 := (List.mem_filter.mp hw).2
  cases w <;> first | rfl | cases h1
theorem o_nw {w : Cond} {G : Gt} {s : State} {args : Array Value} (h : o_En G s) (hw : w ∈ o_N) : w.before args s = true := va_Nw.use (o_nwT hw) (h.2.1 w hw)
theorem o_St.moved {G : Gt} {u U : State} {H : Heap} (hvm : u.vm.Alike U.vm) (h : o_St G u H) : o_St G U H := fun i h1 h2 => ⟨va_Z.moved hvm (h i h1 h2).1, va_T.moved hvm (h i h1 h2).2⟩
theorem o_St.kept {G : Gt} {U : State} {H H1 : Heap} (h : o_St G U H) (hq : ∀ a : Nat, a < H.size → ¬ o_A G a → H1[a]? = H[a]?) : o_St G U H1 := fun i h1 h2 => ⟨(h i h1 h2).1.kept hq, (h i h1 h2).2.kept hq⟩
theorem o_En.warm {G : Gt} {s U : State} {H : Heap} {locs : List Loc} (h : o_En G s) (hS : va_S (o_A G) s.heap H locs) (hH : U.heap = H) (hW : s.WarmedH U.vm) : o_En G U := by
  refine ⟨va_K.moved hW.alike h.1, fun w hw => o_nwW hw hW (h.2.1 w hw), ?_, h.2.2.2⟩
  rw [hH]
  exact (h.2.2.1.moved hW.alike).kept hS.2.1
theorem o_En.blind {G : Gt} {U : State} {g : JFrame} {mk : MethodId} {a : Array Value} (h : o_En G U) : o_En G (U.calling g mk a) :=
  ⟨va_K.moved (u := U) (U := U.calling g mk a) (Vm.Alike.refl U.vm) h.1, fun w hw => va_Nw.same (o_nwT hw) (u := U) (U := U.calling g mk a) rfl (h.2.1 w hw), o_St.moved (u := U) (U := U.calling g mk a) (Vm.Alike.refl U.vm) h.2.2.1, h.2.2.2⟩
/-- a cell written -/
theorem o_W.put {G : Gt} {σ : Sg} {H H1 : Heap} {i k : Nat} {x : Int32} (h : o_W G σ H) (hinj : ∀ i j, i < gN G → j < gN G → gAd G i = gAd G j → i = j) (hi : i < gN G) (hn : va_at (gD G) vwCl (gAd G i, o_ce G (pu σ i k x) i) H1) (oq : ∀ q : Nat, q ≠ gAd G i → H1[q]? = H[q]?) : o_W G (pu σ i k x) H1 := by
  intro j hj
  by_cases hji : j = i
  · subst hji
    exact hn
  · rw [o_ce_c (σ' := σ) (pu_ne hji)]
    exact (h j hj).kept (oq _ (fun e => hji (hinj j i hj hi e)))
def o_Pc (G : Gt) (as : List Value) (σ : Sg) : Array Value → State → Prop := va_Pc as (fun U => o_En G U ∧ o_W G σ U.heap)
theorem o_blind (G : Gt) (as : List Value) (σ : Sg) : FrameBlind (o_Pc G as σ) := fun _ _ _ _ q => ⟨q.1, q.2.1.blind, q.2.2⟩
/-- contracts: an int, nothing, a state of the history -/
def o_Ci (l : Launch) (G : Gt) (y : MethodName) (bytes : ByteArray) (maxL : Nat) (ret : Option FieldType) (fr lc : Nat) (as : List Value) (σ : Sg) (post : Int32 → Sg → Prop) : Prop :=
  Met l y (Cond.code y bytes maxL ret :: WS) { frames := fr, cells := 0, slots := 0, locals := lc } (o_Pc G as σ) (va_Qi post (fun σ' t => o_W G σ' t.heap) (o_A G)) 0 0 (o_A G)
def o_Cv (l : Launch) (G : Gt) (y : MethodName) (bytes : ByteArray) (maxL : Nat) (fr lc : Nat) (as : List Value) (σ : Sg) (post : Sg → Prop) : Prop :=
  Met l y (Cond.code y bytes maxL none :: WS) { frames := fr, cells := 0, slots := 0, locals := lc } (o_Pc G as σ) (va_Qv post (fun σ' t => o_W G σ' t.heap) (o_A G)) 0 0 (o_A G)
def o_Cr (l : Launch) (G : Gt) (y : MethodName) (bytes : ByteArray) (maxL : Nat) (ret : Option FieldType) (fr lc : Nat) (as : List Value) (σ : Sg) (post : Nat → Prop) : Prop :=
  Met l y (Cond.code y bytes maxL ret :: WS) { frames := fr, cells := 0, slots := 0, locals := lc } (o_Pc G as σ) (va_Qr post (fun b a t => a = gAd G b ∧ o_W G σ t.heap) (o_A G)) 0 0 (o_A G)
/-- the judgement over the world: any heap and locals that hold the picture -/
def o_V (p : Program) (l : Launch) (e : Env) (R : Room) (s : State) (m : MethodId) (args : Array Value) (below : List Frame) (meth : Method) (c : Code) (Q : State → Prop) (G : Gt) (kc ks nL : Nat) (σ : Sg) (pc : Nat) (lv : List (Nat × Value)) (st : List Value) : Prop :=
  ∀ (H : Heap) (locs : List Loc) (ls : Array Slot), o_W G σ H → va_S (o_A G) s.heap H locs → lv_has ls nL lv → W p l e R s m args below meth c H locs kc ks Q (F0 m pc ls st)
def o_Cx (p : Program) (s : State) (m : MethodId) (args : Array Value) (meth : Method) (c : Code) (G : Gt) (cc : ByteArray) (own : String) (nL : Nat) : Prop :=
  p.tables.exec = Jvm.exec ∧ c.code = cc ∧ c.maxLocals = nL ∧ s.vm.findClass own = some m.cls ∧ (∀ w ∈ WS, w.before args s = true) ∧ o_En G s ∧ meth.locks = false
theorem o_lt {p : Program} {s : State} {m : MethodId} {args : Array Value} {meth : Method} {c : Code} {G : Gt} {cc : ByteArray} {own : String} {nL i : Nat} (hc : o_Cx p s m args meth c G cc own nL) (h : i < 34) : i < gN G := (hc.2.2.2.2.2.1.2.2.2.2 i).1 h
/-- classes: number, name, fields, how many, types -/
def o_KK (ci : Nat) (C : String) (T : u_T) (N : Nat) (ty : Nat → FieldType) : Prop := vwCl[ci]? = some (C, T, N) ∧ (∀ w ∈ u_ws C T N, w ∈ WS) ∧ (∀ k, k < N → parseFieldDescriptor (T k).2.2.1 = some (ty k)) ∧ (∀ a, a < N → ∀ b, b < N → a ≠ b → (T a).2.1 ≠ (T b).2.1) ∧ o_nf ci = N ∧ ci ≠ 7 ∧ ci ≠ 8
theorem kk0 : o_KK 0 RX0 TX0 7 tyX0 := ⟨rfl, kW_X0, tyX0_ok, nmX0, rfl, by decide, by decide⟩
theorem kk1 : o_KK 1 RX1 TX1 4 tyX1 := ⟨rfl, kW_X1, tyX1_ok, nmX1, rfl, by decide, by decide⟩
theorem kk2 : o_KK 2 RX2 TX2 3 tyX2 := ⟨rfl, kW_X2, tyX2_ok, nmX2, rfl, by decide, by decide⟩
theorem kk3 : o_KK 3 RX3 TX3 11 tyX3 := ⟨rfl, kW_X3, tyX3_ok, nmX3, rfl, by decide, by decide⟩
theorem kk4 : o_KK 4 RX4 TX4 4 tyX4 := ⟨rfl, kW_X4, tyX4_ok, nmX4, rfl, by decide, by decide⟩
theorem kk5 : o_KK 5 RX5 TX5 5 tyX5 := ⟨rfl, kW_X5, tyX5_ok, nmX5, rfl, by decide, by decide⟩
def o_st (b : Nat) : Prop := b = 1 ∨ b = 8 ∨ b = 13 ∨ b = 18 ∨ b = 23
theorem o_st.lt {b : Nat} (h : o_st b) : b + 4 < 34 := by rcases h with rfl | rfl | rfl | rfl | rfl <;> decide
theorem o_st.kd {b : Nat} (h : o_st b) : o_kd b = 3 := by rcases h with rfl | rfl | rfl | rfl | rfl <;> rfl
theorem o_st.a1 {b : Nat} (h : o_st b) : o_kd (b + 1) = 7 ∧ o_len (b + 1) = 4 := by rcases h with rfl | rfl | rfl | rfl | rfl <;> exact ⟨rfl, rfl⟩
theorem o_st.a2 {b : Nat} (h : o_st b) : o_kd (b + 2) = 7 ∧ o_len (b + 2) = 24 := by rcases h with rfl | rfl | rfl | rfl | rfl <;> exact ⟨rfl, rfl⟩
theorem o_st.a3 {b : Nat} (h : o_st b) : o_kd (b + 3) = 7 ∧ o_len (b + 3) = 3 := by rcases h with rfl | rfl | rfl | rfl | rfl <;> exact ⟨rfl, rfl⟩
theorem o_st.a4 {b : Nat} (h : o_st b) : o_kd (b + 4) = 7 ∧ o_len (b + 4) = 24 := by rcases h with rfl | rfl | rfl | rfl | rfl <;> exact ⟨rfl, rfl⟩
theorem o_st.n {b : Nat} (h : o_st b) {k : Nat} (hk : k < 7) : o_rt b k = none := by
  unfold o_rt
  rw [h.kd]
  exact if_neg (by omega)
theorem o_st.s {b : Nat} (h : o_st b) {k : Nat} (hk : 7 ≤ k) : o_rt b k = some (b + (k - 6)) := by
  unfold o_rt
  rw [h.kd]
  exact if_pos hk
theorem o_ceO {G : Gt} {σ : Sg} {i ci : Nat} (h : o_kd i = ci) (h7 : ci ≠ 7) (h8 : ci ≠ 8) : o_ce G σ i = .inr (ci, (List.range (o_nf ci)).map (o_fv G σ i)) := by
  unfold o_ce
  rw [h, if_neg h7, if_neg h8]
theorem o_ceA {G : Gt} {σ : Sg} {i : Nat} (h : o_kd i = 7) : o_ce G σ i = .inl (gI G, o_len i, .inl (σ i)) := by
  unfold o_ce
  rw [h, if_pos rfl]
theorem o_fvs {G : Gt} {σ : Sg} {i N k : Nat} (hk : k < N) : ((List.range N).map (o_fv G σ i))[k]? = some (o_fv G σ i k) := by
  rw [List.getElem?_map, List.getElem?_range hk]
  rfl
theorem o_W.obj {G : Gt} {σ : Sg} {H : Heap} {i ci N : Nat} {C : String} {T : u_T} {ty : Nat → FieldType} (h : o_W G σ H) (hi : i < gN G) (hk : o_kd i = ci) (hK : o_KK ci C T N ty) : va_P (gD G) vwCl [(gAd G i, .inr (ci, (List.range N).map (o_fv G σ i)))] H := by
  intro k q hq
  match k, hq with
  | 0, hq =>
    cases hq
    have h1 := h i hi
    rw [o_ceO hk hK.2.2.2.2.2.1 hK.2.2.2.2.2.2, hK.2.2.2.2.1] at h1
    exact h1
  | k + 1, hq => simp at hq
theorem o_W.arr {G : Gt} {σ : Sg} {H : Heap} {i : Nat} (h : o_W G σ H) (hi : i < gN G) (hk : o_kd i = 7) : va_P (gD G) vwCl [(gAd G i, .inl (gI G, o_len i, .inl (σ i)))] H := by
  intro k q hq
  match k, hq with
  | 0, hq =>
    cases hq
    have h1 := h i hi
    rw [o_ceA hk] at h1
    exact h1
  | k + 1, hq => simp at hq
theorem o_W.arq {G : Gt} {σ : Sg} {H : Heap} (h : o_W G σ H) (h7 : 7 < gN G) : va_P (gD G) vwCl [(gAd G 7, .inl (gO G, 4, .inr (.inr (.inr (.inr (fun j => some (gAd G (8 + 5 * j))))))))] H := by
  intro k q hq
  match k, hq with
  | 0, hq =>
    cases hq
    exact h 7 h7
  | k + 1, hq => simp at hq
