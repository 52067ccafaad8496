set_option linter.all false
def v0N : Nat → Int := fun k => if k = 1 then 1 else if k = 3 then 200 else if k = 5 then -1 else if k = 7 then 5 else if k = 8 then 2 else if k = 9 then 500 else 0
def s0S : Nat → Int32 := fun k => if k = 2 then 1 else if k = 3 then 200 else if k = 5 then -1 else 0
def s0 : Sg := fun i => if i = 1 ∨ i = 8 ∨ i = 13 ∨ i = 18 ∨ i = 23 then s0S else if i = 2 ∨ i = 9 ∨ i = 14 ∨ i = 19 ∨ i = 24 then sSet else zA
theorem s0_AC : AC s0 v0N 0 (fun _ _ => 0) 0 (fun _ => 0) := by
  refine ⟨by decide +kernel, by decide +kernel, ⟨0, by omega, by decide +kernel, fun j hj => by omega⟩, by decide +kernel, fun k hk => by omega⟩
theorem v0_z {k : Nat} (h : 11 ≤ k) : v0N k = 0 := by
  unfold v0N
  rw [if_neg (by omega), if_neg (by omega), if_neg (by omega), if_neg (by omega), if_neg (by omega), if_neg (by omega)]
theorem s0_IS : IS 0 s0 v0N 0 (fun _ _ => 0) := by
  refine ⟨s0_AC, ⟨by decide, by decide, by decide, by decide, by decide, by decide, by decide, by decide, by decide, by decide, by decide, fun k h1 h2 => ?_, fun k h1 h2 => ?_⟩, fun j hj => by omega, by omega⟩
  · rw [v0_z h1]; omega
  · rw [v0_z (by omega)]; omega
theorem q4_cell {cA : ClassId} {a b c d : Nat} {g : Nat → Nat} (h0 : g 0 = a) (h1 : g 1 = b) (h2 : g 2 = c) (h3 : g 3 = d) : vp_cell cA (4, .inr (.inr (.inr (.inr (va_up (va_up (va_up (va_up (fun _ => none) (Int32.toNatClampNeg 0) (some a)) (Int32.toNatClampNeg 1) (some b)) (Int32.toNatClampNeg 2) (some c)) (Int32.toNatClampNeg 3) (some d)))))) = vp_cell cA (4, .inr (.inr (.inr (.inr (fun j => some (g j)))))) := by
  subst h0 h1 h2 h3
  rfl
/-- a static row -/
theorem st_of {b : Nat} {s : State} (hts : ∀ w ∈ lw_tbl, w.before #[Value.ref b] s = true) (hgv : (Jvm.Cond.and given_1 narrow_1).before #[Value.ref b] s = true) {n : String} {N : Nat} {f : Nat → Int32} (hN : N < 2 ^ 31) (h1 : Cond.arrayOf (.static RX5 n "[I") .int ∈ flatC (Jvm.Cond.and given_1 narrow_1)) (h2 : Cond.eq (.length (.static RX5 n "[I")) (.int (Int32.ofNat N)) ∈ flatC (Jvm.Cond.and given_1 narrow_1)) (h3 : ∀ j, j < N → Cond.eq (.elem (.static RX5 n "[I") (.int (Int32.ofNat j))) (.int (f j)) ∈ flatC (Jvm.Cond.and given_1 narrow_1)) (hl : Cond.laysStatic RX5 n "[I" ∈ lw_tbl) : ∃ t : Nat, va_Z RX5 n "[I" (.ref t) (fun q => s.heap.size ≤ q) s s.heap ∧ va_T .int t N (fun k => .int (f k)) (fun q => s.heap.size ≤ q) s s.heap := by
  have hs := flat_of_before _ hgv
  have hA : ∀ a : Nat, a < s.heap.size → ¬ (fun q => s.heap.size ≤ q) a := fun a h => by show ¬ s.heap.size ≤ a; omega
  obtain ⟨t, ht, hT⟩ := va_Tof (f := fun k => .int (f k)) hN (hs _ h1) (va_eqt (hs _ h2)) (fun j hj => va_eqt (hs _ (h3 j hj))) hA
  exact ⟨t, va_Zref (hts _ hl) (hts _ (List.mem_filter.mp kIn_X5).1) ht hA, hT⟩

theorem n_ws {p : Program} {l : Launch} {e : Env} {R : Room} {s : State} {m : MethodId} {args : Array Value} {below : List Frame} {meth : Method} {c : Code} {Q : State → Prop} {D : va_G} {A : Nat → Prop} {kc ks nL : Nat} {ws ws' : va_W} {pc : Nat} {lv : List (Nat × Value)} {st : List Value} (h : ws = ws') (kk : n_V p l e R s m args below meth c Q D A kc ks nL ws' pc lv st) : n_V p l e R s m args below meth c Q D A kc ks nL ws pc lv st := by
  rw [h]
  exact kk
set_option maxHeartbeats 4000000 in
set_option maxRecDepth 100000 in
theorem whole_start {p : Program} {e : Env} {s : State} {m : MethodId} {below : List Frame} {meth : Method} {c : Code} (l : Launch) (hflags : l.flags = flags0) {b L : Nat} {xs : Nat → Int32} (hL : L ≤ 260) (C0 : lw_At p s m meth c b L xs) : W p l e room_1 s m #[Value.ref b] below meth c s.heap [] 0 0 (lw_Z below #[Value.ref b] s) (entryFrame m ([Value.ref b] : List Value).toArray 8) := by
  obtain ⟨hx, hb, hr, hml, hown, hts, hX, hbl, hlocks, hgv⟩ := C0
  have htW : ∀ w ∈ WS, w.before #[Value.ref b] s = true := fun w hw => hts w (List.mem_filter.mp hw).1
  have htN : ∀ w ∈ o_N, va_Nw w s := fun w hw => va_tabs (o_nwT hw) rfl (hts w (List.mem_filter.mp hw).1)
  obtain ⟨c0, i0, k0⟩ := u_known (C := RX0) (T := TX0) (N := 7) (n := 7) htW kW_X0 (htW _ kT_X0)
  obtain ⟨c1, i1, k1⟩ := u_known (C := RX1) (T := TX1) (N := 4) (n := 4) htW kW_X1 (htW _ kT_X1)
  obtain ⟨c2, i2, k2⟩ := u_known (C := RX2) (T := TX2) (N := 3) (n := 3) htW kW_X2 (htW _ kT_X2)
  obtain ⟨c3, i3, k3⟩ := u_known (C := RX3) (T := TX3) (N := 11) (n := 11) htW kW_X3 (htW _ kT_X3)
  obtain ⟨c4, i4, k4⟩ := u_known (C := RX4) (T := TX4) (N := 4) (n := 4) htW kW_X4 (htW _ kT_X4)
  obtain ⟨c5, i5, k5⟩ := u_known (C := RX5) (T := TX5) (N := 5) (n := 5) htW kW_X5 (htW _ kT_X5)
  obtain ⟨D, hD0⟩ : ∃ D : va_G, ∀ (k : Nat) (q : vw_C), vwCl[k]? = some q → u_Kn s q.1 q.2.1 q.2.2 (D.1 k) (D.2 k) := by
    refine ⟨(fun k => [c0, c1, c2, c3, c4, c5].getD k c0, fun k => [i0, i1, i2, i3, i4, i5].getD k i0), ?_⟩
    intro k q hq
    match k, hq with
    | 0, hq => cases hq; exact k0
    | 1, hq => cases hq; exact k1
    | 2, hq => cases hq; exact k2
    | 3, hq => cases hq; exact k3
    | 4, hq => cases hq; exact k4
    | 5, hq => cases hq; exact k5
    | k + 6, hq => simp [vwCl] at hq
  obtain ⟨cI, kI, compI, hI1, hI2, hI3⟩ := Cond.arrayClass_spec (htW _ kA_int)
  obtain ⟨compO, cO, kO, hO1, hO2, hO3, hO4, hO5⟩ := Cond.arrayOver_spec (hts _ kA_State)
  have hK : va_K D vwCl (nT cI cO) s := by
    refine ⟨hD0, fun k q hq => ?_⟩
    match k, hq with
    | 0, hq => cases hq; exact ⟨fun n z => ⟨fun k h => (by cases h), kI, hI2, compI, hI3⟩, hI1⟩
    | 1, hq => cases hq; exact ⟨fun n z => ⟨fun k h => (by cases h), kO, hO3, compO, hO4⟩, kO, compO, hO3, hO4, hO1, hO5⟩
    | k + 2, hq => simp at hq
  obtain ⟨t1, tz1, tt1⟩ := st_of (f := o_sv 41) (N := 3) hts hgv (n := "LENGTHS") (by decide) (by decide +kernel) (by decide +kernel) (by decide +kernel) kZ_LENGTHS
  obtain ⟨t2, tz2, tt2⟩ := st_of (f := o_sv 42) (N := 4) hts hgv (n := "LEAST_SETTINGS") (by decide) (by decide +kernel) (by decide +kernel) (by decide +kernel) kZ_LEAST_SETTINGS
  obtain ⟨t3, tz3, tt3⟩ := st_of (f := o_sv 43) (N := 4) hts hgv (n := "GREATEST_SETTINGS") (by decide) (by decide +kernel) (by decide +kernel) (by decide +kernel) kZ_GREATEST_SETTINGS
  have hc : n_Cx p s m #[Value.ref b] meth c cL_law RL 8 D cI cO (fun q => s.heap.size ≤ q) := ⟨hx, hb, hml, hown, htW, htN, hts _ kA_State, hK, fun q h => h, hlocks⟩
  have start : n_V p l e room_1 s m #[Value.ref b] below meth c (lw_Z below #[Value.ref b] s) D (fun q => s.heap.size ≤ q) 0 0 8 [] 0 [(0, .ref b)] [] := by
    refine n_new (pc := 0) (fs := dfX5) hc kk5 kL_L_20 kT_X5 kIn_X5 dfX5_ok ⟨Nat.le_of_ble_eq_true rfl, Nat.le_of_ble_eq_true rfl⟩ dL_law_0 (fun a0 => ?_)
    refine n_dup (pc := 3) hc dL_law_3 rfl ?_
    refine n_callI (pc := 4) (q := a0) (st := [.ref a0]) (wr := []) hc (i_X5 l D cI cO) kC_X5_init kI_X5_init kIn_X5 kM_L_130 (by decide +kernel) rfl ⟨Nat.le_of_ble_eq_true rfl, Nat.le_of_ble_eq_true rfl⟩ ⟨Nat.le_of_ble_eq_true rfl, Nat.le_of_ble_eq_true rfl⟩ (Nat.le_of_ble_eq_true rfl) dL_law_4 [] rfl rfl (fun i hi => by simp at hi) (fun w1 h1 => ?_)
    obtain ⟨a1, a2, a3, a4, a5, a6, a7, a8, a9, a10, a11, a12, a13, a14, a15, a16, a17, a18, a19, a20, a21, a22, a23, a24, a25, a26, a27, a28, a29, a30, a31, a32, a33, rfl⟩ := h1
    refine n_astore_n (pc := 7) (lv' := [(1, .ref a0), (0, .ref b)]) hc dL_law_7 rfl (by decide) rfl ?_
    intro H locs ls hP hD hS hl
    obtain ⟨G, hG⟩ : ∃ G : Gt, G = (s.heap.size, (fun i => [a0, a1, a2, a3, a4, a5, a6, a7, a8, a9, a10, a11, a12, a13, a14, a15, a16, a17, a18, a19, a20, a21, a22, a23, a24, a25, a26, a27, a28, a29, a30, a31, a32, a33, 0, 0, 0, 0, 0, 0, 0, t1, t2, t3].getD i 0), D, cI, cO, 34) := ⟨_, rfl⟩
    have hlo : gLo G = s.heap.size := by rw [hG]
    have at9 : ∀ i, i < 34 → ∃ x : va_E, ([(a0, .inr (5, [.ref a1, .ref a6, .ref a28, .ref a29, .ref a30])), (a1, .inr (3, [.int 0, .int 0, .int 1, .int 200, .int 0, .int (-1), .int 0, .ref a2, .ref a3, .ref a4, .ref a5])), (a2, .inl (cI, 4, .inl sSet)), (a3, .inl (cI, 24, .inl zA)), (a4, .inl (cI, 3, .inl zA)), (a5, .inl (cI, 24, .inl zA)), (a6, .inr (2, [.ref a7, .int 0, .int 0])), (a7, .inl (cO, 4, .inr (.inr (.inr (.inr (va_up (va_up (va_up (va_up (fun _ => none) (Int32.toNatClampNeg 0) (some a8)) (Int32.toNatClampNeg 1) (some a13)) (Int32.toNatClampNeg 2) (some a18)) (Int32.toNatClampNeg 3) (some a23))))))), (a8, .inr (3, [.int 0, .int 0, .int 1, .int 200, .int 0, .int (-1), .int 0, .ref a9, .ref a10, .ref a11, .ref a12])), (a9, .inl (cI, 4, .inl sSet)), (a10, .inl (cI, 24, .inl zA)), (a11, .inl (cI, 3, .inl zA)), (a12, .inl (cI, 24, .inl zA)), (a13, .inr (3, [.int 0, .int 0, .int 1, .int 200, .int 0, .int (-1), .int 0, .ref a14, .ref a15, .ref a16, .ref a17])), (a14, .inl (cI, 4, .inl sSet)), (a15, .inl (cI, 24, .inl zA)), (a16, .inl (cI, 3, .inl zA)), (a17, .inl (cI, 24, .inl zA)), (a18, .inr (3, [.int 0, .int 0, .int 1, .int 200, .int 0, .int (-1), .int 0, .ref a19, .ref a20, .ref a21, .ref a22])), (a19, .inl (cI, 4, .inl sSet)), (a20, .inl (cI, 24, .inl zA)), (a21, .inl (cI, 3, .inl zA)), (a22, .inl (cI, 24, .inl zA)), (a23, .inr (3, [.int 0, .int 0, .int 1, .int 200, .int 0, .int (-1), .int 0, .ref a24, .ref a25, .ref a26, .ref a27])), (a24, .inl (cI, 4, .inl sSet)), (a25, .inl (cI, 24, .inl zA)), (a26, .inl (cI, 3, .inl zA)), (a27, .inl (cI, 24, .inl zA)), (a28, .inr (1, [.int 0, .int 0, .int 0, .int 0])), (a29, .inr (4, [.int 0, .int 0, .int 0, .int 0])), (a30, .inr (0, [.ref a31, .int 0, .ref a32, .ref a33, .int 0, .int 0, .int 0])), (a31, .inl (cI, 60, .inl zA)), (a32, .inl (cI, 24, .inl zA)), (a33, .inl (cI, 24, .inl zA))] : va_W)[i]? = some (gAd G i, x) := by
      intro i hi
      rw [hG]
      match i, hi with
      | 0, _ => exact ⟨_, rfl⟩
      | 1, _ => exact ⟨_, rfl⟩
      | 2, _ => exact ⟨_, rfl⟩
      | 3, _ => exact ⟨_, rfl⟩
      | 4, _ => exact ⟨_, rfl⟩
      | 5, _ => exact ⟨_, rfl⟩
      | 6, _ => exact ⟨_, rfl⟩
      | 7, _ => exact ⟨_, rfl⟩
      | 8, _ => exact ⟨_, rfl⟩
      | 9, _ => exact ⟨_, rfl⟩
      | 10, _ => exact ⟨_, rfl⟩
      | 11, _ => exact ⟨_, rfl⟩
      | 12, _ => exact ⟨_, rfl⟩
      | 13, _ => exact ⟨_, rfl⟩
      | 14, _ => exact ⟨_, rfl⟩
      | 15, _ => exact ⟨_, rfl⟩
      | 16, _ => exact ⟨_, rfl⟩
      | 17, _ => exact ⟨_, rfl⟩
      | 18, _ => exact ⟨_, rfl⟩
      | 19, _ => exact ⟨_, rfl⟩
      | 20, _ => exact ⟨_, rfl⟩
      | 21, _ => exact ⟨_, rfl⟩
      | 22, _ => exact ⟨_, rfl⟩
      | 23, _ => exact ⟨_, rfl⟩
      | 24, _ => exact ⟨_, rfl⟩
      | 25, _ => exact ⟨_, rfl⟩
      | 26, _ => exact ⟨_, rfl⟩
      | 27, _ => exact ⟨_, rfl⟩
      | 28, _ => exact ⟨_, rfl⟩
      | 29, _ => exact ⟨_, rfl⟩
      | 30, _ => exact ⟨_, rfl⟩
      | 31, _ => exact ⟨_, rfl⟩
      | 32, _ => exact ⟨_, rfl⟩
      | 33, _ => exact ⟨_, rfl⟩
      | i + 34, h => exact absurd h (by omega)
    have hW : o_W G s0 H := by
      rw [hG]
      intro i hi
      have hi : i < 34 := hi
      match i, hi with
      | 0, _ => rw [o_ceO (ci := 5) rfl (by decide) (by decide)]; exact hP 0 _ rfl
      | 1, _ => rw [o_ceO (ci := 3) rfl (by decide) (by decide)]; exact hP 1 _ rfl
      | 2, _ => rw [o_ceA rfl]; exact hP 2 _ rfl
      | 3, _ => rw [o_ceA rfl]; exact hP 3 _ rfl
      | 4, _ => rw [o_ceA rfl]; exact hP 4 _ rfl
      | 5, _ => rw [o_ceA rfl]; exact hP 5 _ rfl
      | 6, _ => rw [o_ceO (ci := 2) rfl (by decide) (by decide)]; exact hP 6 _ rfl
      | 7, _ => exact (hP 7 _ rfl).trans (congrArg some (q4_cell (g := fun j => [a8, a13, a18, a23].getD j 0) rfl rfl rfl rfl))
      | 8, _ => rw [o_ceO (ci := 3) rfl (by decide) (by decide)]; exact hP 8 _ rfl
      | 9, _ => rw [o_ceA rfl]; exact hP 9 _ rfl
      | 10, _ => rw [o_ceA rfl]; exact hP 10 _ rfl
      | 11, _ => rw [o_ceA rfl]; exact hP 11 _ rfl
      | 12, _ => rw [o_ceA rfl]; exact hP 12 _ rfl
      | 13, _ => rw [o_ceO (ci := 3) rfl (by decide) (by decide)]; exact hP 13 _ rfl
      | 14, _ => rw [o_ceA rfl]; exact hP 14 _ rfl
      | 15, _ => rw [o_ceA rfl]; exact hP 15 _ rfl
      | 16, _ => rw [o_ceA rfl]; exact hP 16 _ rfl
      | 17, _ => rw [o_ceA rfl]; exact hP 17 _ rfl
      | 18, _ => rw [o_ceO (ci := 3) rfl (by decide) (by decide)]; exact hP 18 _ rfl
      | 19, _ => rw [o_ceA rfl]; exact hP 19 _ rfl
      | 20, _ => rw [o_ceA rfl]; exact hP 20 _ rfl
      | 21, _ => rw [o_ceA rfl]; exact hP 21 _ rfl
      | 22, _ => rw [o_ceA rfl]; exact hP 22 _ rfl
      | 23, _ => rw [o_ceO (ci := 3) rfl (by decide) (by decide)]; exact hP 23 _ rfl
      | 24, _ => rw [o_ceA rfl]; exact hP 24 _ rfl
      | 25, _ => rw [o_ceA rfl]; exact hP 25 _ rfl
      | 26, _ => rw [o_ceA rfl]; exact hP 26 _ rfl
      | 27, _ => rw [o_ceA rfl]; exact hP 27 _ rfl
      | 28, _ => rw [o_ceO (ci := 1) rfl (by decide) (by decide)]; exact hP 28 _ rfl
      | 29, _ => rw [o_ceO (ci := 4) rfl (by decide) (by decide)]; exact hP 29 _ rfl
      | 30, _ => rw [o_ceO (ci := 0) rfl (by decide) (by decide)]; exact hP 30 _ rfl
      | 31, _ => rw [o_ceA rfl]; exact hP 31 _ rfl
      | 32, _ => rw [o_ceA rfl]; exact hP 32 _ rfl
      | 33, _ => rw [o_ceA rfl]; exact hP 33 _ rfl
      | i + 34, h => exact absurd h (by omega)
    have hE : o_En G s := by
      refine ⟨by rw [hG]; exact hK, htN, ?_, fun i j hi hj he => ?_, fun i => ⟨fun hi => by rw [hG]; exact hi, fun hi => ?_⟩⟩
      · rw [hG]
        intro i h1 h2
        rcases (by omega : i = 41 ∨ i = 42 ∨ i = 43) with rfl | rfl | rfl
        · exact ⟨tz1, tt1⟩
        · exact ⟨tz2, tt2⟩
        · exact ⟨tz3, tt3⟩
      · obtain ⟨x, hx1⟩ := at9 i (by rw [hG] at hi; exact hi)
        obtain ⟨y, hy1⟩ := at9 j (by rw [hG] at hj; exact hj)
        exact hD.1 i j _ _ hx1 hy1 he
      · obtain ⟨x, hx1⟩ := at9 i (by rw [hG] at hi; exact hi)
        rw [hlo]
        exact hD.2 i _ hx1
    have hcL : o_Cx p s m #[Value.ref b] meth c G cL_law RL 8 := ⟨hx, hb, hml, hown, htW, hE, hlocks⟩
    have g0 : gAd G 0 = a0 := by rw [hG]; rfl
    have hGN : gN G = 34 := by rw [hG]
    have hSG : va_S (o_A G) s.heap H locs := by
      show va_S (fun q => gLo G ≤ q) s.heap H locs
      rw [hlo]
      exact hS
    refine L8 (l := l) (e := e) hcL hGN hlo hr hX hbl hL s0_IS H locs ls hW hSG ?_
    have hl2 := hl
    rw [← g0] at hl2
    exact hl2
  rw [lg_entry_eq]
  exact start s.heap [] _ (fun k q h => by simp at h) ⟨fun i j p q h => by simp at h, fun k q h => by simp at h⟩ va_S.rf (lv_entry ([.ref b]) (n := 8) (Nat.le_of_ble_eq_true rfl))

