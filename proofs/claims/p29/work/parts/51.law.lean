set_option linter.all false
/-! the law's body -/
theorem ph_last {n : Nat} {hs : Nat → Nat → Int} {v : Nat → Int} (h : n ≤ 4) : 0 < pn n ∧ ph n hs v (pn n - 1) = v := by
  rcases (by omega : n = 0 ∨ n = 1 ∨ n = 2 ∨ n = 3 ∨ n = 4) with rfl | rfl | rfl | rfl | rfl <;> exact ⟨by decide, rfl⟩
theorem ph_3 {n : Nat} {hs : Nat → Nat → Int} {v v1 v2 : Nat → Int} (h : n ≤ 4) : 2 < pn (pn (pn n)) ∧ ph (pn (pn n)) (ph (pn n) (ph n hs v) v1) v2 (pn (pn (pn n)) - 1) = v2 ∧ ph (pn (pn n)) (ph (pn n) (ph n hs v) v1) v2 (pn (pn (pn n)) - 1 - 1) = v1 ∧ ph (pn (pn n)) (ph (pn n) (ph n hs v) v1) v2 (pn (pn (pn n)) - 1 - 1 - 1) = v := by
  rcases (by omega : n = 0 ∨ n = 1 ∨ n = 2 ∨ n = 3 ∨ n = 4) with rfl | rfl | rfl | rfl | rfl <;> exact ⟨by decide, rfl, rfl, rfl⟩
section LAWB
variable {p : Program} {l : Launch} {e : Env} {s : State} {m : MethodId} {below : List Frame} {meth : Method} {c : Code} {Q : State → Prop} {G : Gt} {kc ks : Nat} {σ : Sg} {pc : Nat} {lv : List (Nat × Value)} {st : List Value} {b L : Nat} {xs : Nat → Int32} {N : Int} {v : Nat → Int} {n : Nat} {hs : Nat → Nat → Int}
theorem room_le (h : kc ≤ 1000 ∧ ks ≤ 1000) : kc + 0 ≤ room_1.cells ∧ ks + 0 ≤ room_1.slots := ⟨show kc + 0 ≤ 600000 by omega, show ks + 0 ≤ 7302250 by omega⟩
theorem w_refused (hc : o_Cx p s m #[.ref b] meth c G cL_law RL 8) (hk : kc ≤ 1000 ∧ ks ≤ 1000) (h : IS N σ v n hs) (hd : decode cL_law pc = .ok (.invokestatic 134, 3)) (kk : o_V p l e room_1 s m #[.ref b] below meth c Q G kc ks 8 σ (pc + 3) lv [.int 1]) : o_V p l e room_1 s m #[.ref b] below meth c Q G kc ks 8 σ pc lv [.ref (gAd G 0)] := by
  have r := l_refused h
  refine r_callS_i (as := [.ref (gAd G 0)]) hc (c_L_refused l G r.1) mS_L_refused kM_L_134 ⟨Nat.le_of_ble_eq_true rfl, Nat.le_of_ble_eq_true rfl⟩ (room_le hk) rfl rfl (Nat.le_of_ble_eq_true rfl) hd (fun x σ' q => ?_)
  rw [r.2] at q
  obtain ⟨rfl, rfl⟩ := q
  exact kk
theorem w_fits (hc : o_Cx p s m #[.ref b] meth c G cL_law RL 8) (hk : kc ≤ 1000 ∧ ks ≤ 1000) (h : IS N σ v n hs) (hd : decode cL_law pc = .ok (.invokestatic 137, 3)) (kk : ∀ τ : Sg, IS N τ v n hs → o_V p l e room_1 s m #[.ref b] below meth c Q G kc ks 8 τ (pc + 3) lv [.int 1]) : o_V p l e room_1 s m #[.ref b] below meth c Q G kc ks 8 σ pc lv [.ref (gAd G 0)] := by
  obtain ⟨r1, τ, r2, r3, -⟩ := l_fits h
  refine r_callS_i (as := [.ref (gAd G 0)]) hc (c_L_fits l G r1) mS_L_fits kM_L_137 ⟨Nat.le_of_ble_eq_true rfl, Nat.le_of_ble_eq_true rfl⟩ (room_le hk) rfl rfl (Nat.le_of_ble_eq_true rfl) hd (fun x σ' q => ?_)
  rw [r2] at q
  obtain ⟨rfl, rfl⟩ := q
  exact kk _ r3
theorem w_sum (hc : o_Cx p s m #[.ref b] meth c G cL_law RL 8) (hk : kc ≤ 1000 ∧ ks ≤ 1000) (h : IS N σ v n hs) (hd : decode cL_law pc = .ok (.invokestatic 37, 3)) (kk : o_V p l e room_1 s m #[.ref b] below meth c Q G kc ks 8 σ (pc + 3) lv [.long (uS v)]) : o_V p l e room_1 s m #[.ref b] below meth c Q G kc ks 8 σ pc lv [.ref (gAd G 0)] := by
  have r := q_sum h
  refine r_callS_l (as := [.ref (gAd G 0)]) hc (c_L_sum l G r.1) mS_L_sum kM_L_37 ⟨Nat.le_of_ble_eq_true rfl, Nat.le_of_ble_eq_true rfl⟩ (room_le hk) rfl rfl (Nat.le_of_ble_eq_true rfl) hd (fun x σ' q => ?_)
  obtain ⟨rfl, rfl⟩ := q
  rw [r.2]
  exact kk
theorem w_low (hc : o_Cx p s m #[.ref b] meth c G cL_law RL 8) (hk : kc ≤ 1000 ∧ ks ≤ 1000) {x d : Int32} {D : Nat} (hd0 : d = zI D) (hD : 0 < D ∧ D < 100000) (hst : (st.map fun v => v.category).sum ≤ 8) (hd : decode cL_law pc = .ok (.invokestatic 106, 3)) (kk : ∀ k : Nat, k < D → o_V p l e room_1 s m #[.ref b] below meth c Q G kc ks 8 σ (pc + 3) lv (.int (zI k) :: st)) : o_V p l e room_1 s m #[.ref b] below meth c Q G kc ks 8 σ pc lv (.int d :: .int x :: st) := by
  subst hd0
  obtain ⟨r1, k, r2, r3⟩ := l_lowN x (d := D) (σ := σ) hD.1 hD.2
  refine r_callS_i (as := [.int x, .int (zI D)]) hc (c_L_low l G r1) mS_L_low kM_L_106 ⟨Nat.le_of_ble_eq_true rfl, Nat.le_of_ble_eq_true rfl⟩ (room_le hk) rfl rfl hst hd (fun y σ' q => ?_)
  rw [r3] at q
  obtain ⟨rfl, rfl⟩ := q
  exact kk k r2
theorem w_cell (hc : o_Cx p s m #[.ref b] meth c G cL_law RL 8) (hk : kc ≤ 1000 ∧ ks ≤ 1000) (hX : va_X b L xs s s.heap) (hbl : b < s.heap.size) (hbA : ¬ o_A G b) (hL : L ≤ 260) {i : Nat} {x : Int32} (hx : x = zI i) (hi : i < 1000) (hd : decode cL_law pc = .ok (.invokestatic 140, 3)) (kk : ∀ y : Int32, o_V p l e room_1 s m #[.ref b] below meth c Q G kc ks 8 σ (pc + 3) lv [.int y]) : o_V p l e room_1 s m #[.ref b] below meth c Q G kc ks 8 σ pc lv [.int x, .ref b] := by
  subst hx
  intro H locs ls hP hS hl
  exact va_calli (va_runS (g := F0 m pc ls [.int (zI i), .ref b]) (o_fix hc) (c_cell l G b L xs (σ := σ) hi hL) (o_cwS hc mS_L_cell kM_L_140 ⟨Nat.le_of_ble_eq_true rfl, Nat.le_of_ble_eq_true rfl⟩) (c_pre hc hX hbl hbA hP hS [.ref b, .int (zI i)]) rfl rfl hl.1 rfl (lv_room (Nat.le_of_ble_eq_true rfl)) hd (room_le hk)) hS (fun _ _ h => h) (fun _ h => h) (fun r u t H1 locs1 ht _ hp hB _ _ hS1 => by
    subst hp
    exact kk r H1 locs1 ls (by rw [← ht]; exact hB) hS1 hl)
theorem w_acts (hc : o_Cx p s m #[.ref b] meth c G cL_law RL 8) (hG : gN G = 34) (hk : kc + 1 ≤ 1000 ∧ ks + 3 ≤ 1000) (h : IS N σ v n hs) (hN0 : 0 ≤ N) (hN : N ≤ 1000000000) {x y : Int32} (hd : decode cL_law pc = .ok (.invokestatic 144, 3)) (kk : ∀ (τ : Sg) (v' : Nat → Int) (n' : Nat) (hs' : Nat → Nat → Int), IS (N + 1) τ v' n' hs' → o_V p l e room_1 s m #[.ref b] below meth c Q G (kc + 1) (ks + 3) 8 τ (pc + 3) lv [.int 1]) : o_V p l e room_1 s m #[.ref b] below meth c Q G kc ks 8 σ pc lv [.int y, .int x, .ref (gAd G 0)] := by
  obtain ⟨r1, τ, v', n', hs', r2, r3⟩ := l_acts h hN0 hN x y
  refine r_callS_im (as := [.ref (gAd G 0), .int x, .int y]) hc (c_L_acts l G hG r1) mS_L_acts kM_L_144 ⟨Nat.le_of_ble_eq_true rfl, Nat.le_of_ble_eq_true rfl⟩ ⟨show kc + 1 ≤ 600000 by omega, show ks + 3 ≤ 7302250 by omega⟩ rfl rfl (Nat.le_of_ble_eq_true rfl) hd (fun z σ' q => ?_)
  rw [r2] at q
  obtain ⟨rfl, rfl⟩ := q
  exact kk _ _ _ _ r3
theorem w_undo (hc : o_Cx p s m #[.ref b] meth c G cL_law RL 8) (hk : kc ≤ 1000 ∧ ks ≤ 1000) (h : IS N σ v n hs) (h0 : 0 < n) (hd : decode cL_law pc = .ok (.invokevirtual 131, 3)) (kk : ∀ τ : Sg, IS N τ (hs (n - 1)) (n - 1) hs → o_V p l e room_1 s m #[.ref b] below meth c Q G kc ks 8 τ (pc + 3) lv [.int (zI ((n - 1 : Nat) : Int))]) : o_V p l e room_1 s m #[.ref b] below meth c Q G kc ks 8 σ pc lv [.ref (gAd G 0)] := by
  obtain ⟨r1, τ, r2, r3⟩ := k_undo h h0
  refine r_callV_i (as := []) hc (c_X5_undo l G r1) kk5 (o_lt hc (by decide)) rfl mV_X5_undo kM_L_131 ⟨Nat.le_of_ble_eq_true rfl, Nat.le_of_ble_eq_true rfl⟩ (room_le hk) rfl rfl (Nat.le_of_ble_eq_true rfl) hd (fun z σ' q => ?_)
  rw [r2] at q
  obtain ⟨rfl, rfl⟩ := q
  exact kk _ r3
abbrev lvH (G : Gt) (b : Nat) (t : Int32) : List (Nat × Value) := [(3, .int t), (2, .int 1), (1, .ref (gAd G 0)), (0, .ref b)]
abbrev lvB (G : Gt) (b : Nat) (t x y : Int32) : List (Nat × Value) := [(5, .int y), (4, .int x), (3, .int t), (2, .int 1), (1, .ref (gAd G 0)), (0, .ref b)]
abbrev lvC (G : Gt) (b : Nat) (t x y : Int32) (w : Int64) : List (Nat × Value) := [(6, .long w), (5, .int y), (4, .int x), (3, .int t), (2, .int 1), (1, .ref (gAd G 0)), (0, .ref b)]
/-- three changes, undone; the sum is as it was -/
theorem L189 (hc : o_Cx p s m #[.ref b] meth c G cL_law RL 8) (hk : kc ≤ 1000 ∧ ks ≤ 1000) {v1 v2 v3 : Nat → Int} {t x y : Int32} (hn : n ≤ 4) (h : IS N σ v3 (pn (pn (pn n))) (ph (pn (pn n)) (ph (pn n) (ph n hs v) v1) v2)) (kk : ∀ (τ : Sg) (n' : Nat) (hs' : Nat → Nat → Int), IS N τ v n' hs' → o_V p l e room_1 s m #[.ref b] below meth c Q G kc ks 8 τ 226 (lvH G b t) []) : o_V p l e room_1 s m #[.ref b] below meth c Q G kc ks 8 σ 189 (lvC G b t x y (uS v)) [] := by
  obtain ⟨q0, q1, q2, q3⟩ := ph_3 (hs := hs) (v := v) (v1 := v1) (v2 := v2) hn
  have np : ∀ k : Nat, k < 10 → ¬ zI (k : Int) < 0 := fun k hk => n_lt (b := 0) (by omega) (by unfold zB; omega) (by unfold zB; omega)
  have h4 := h.2.2.2
  refine r_aload_n hc 5 dL_law_189 rfl rfl ?_
  refine w_undo hc hk h (by omega) dL_law_190 (fun τ1 h1 => ?_)
  refine r_if_lt (tgt := 224) hc dL_law_193 (by decide) (fun c => absurd c (np _ (by omega))) (fun _ => ?_)
  refine r_aload_n hc 5 dL_law_196 rfl rfl ?_
  refine w_undo hc hk h1 (by omega) dL_law_197 (fun τ2 h2 => ?_)
  refine r_if_lt (tgt := 224) hc dL_law_200 (by decide) (fun c => absurd c (np _ (by omega))) (fun _ => ?_)
  refine r_aload_n hc 5 dL_law_203 rfl rfl ?_
  refine w_undo hc hk h2 (by omega) dL_law_204 (fun τ3 h3 => ?_)
  rw [q3] at h3
  refine r_if_lt (tgt := 224) hc dL_law_207 (by decide) (fun c => absurd c (np _ (by omega))) (fun _ => ?_)
  refine r_aload_n hc 5 dL_law_210 rfl rfl ?_
  refine w_sum hc hk h3 dL_law_211 ?_
  refine r_lload hc 0 dL_law_214 rfl ?_
  refine r_lcmp hc dL_law_216 ?_
  refine r_if_ne (tgt := 224) hc dL_law_217 (by decide) (fun c => absurd (lg_self _) c) (fun _ => ?_)
  refine r_iconst (v := 1) hc dL_law_220 rfl ?_
  refine r_goto (tgt := 225) hc dL_law_221 (by decide) ?_
  refine r_istore_n (lv' := [(2, .int 1), (6, .long (uS v)), (5, .int y), (4, .int x), (3, .int t), (1, .ref (gAd G 0)), (0, .ref b)]) hc dL_law_225 rfl (by decide) rfl ?_
  exact o_V.sub (kk τ3 _ _ h3) [4, 0, 5, 6] rfl
theorem L120 (hc : o_Cx p s m #[.ref b] meth c G cL_law RL 8) (hk : kc ≤ 1000 ∧ ks ≤ 1000) {t x y : Int32} (h : IS N σ v n hs) (kk : ∀ (τ : Sg) (n' : Nat) (hs' : Nat → Nat → Int), IS N τ v n' hs' → o_V p l e room_1 s m #[.ref b] below meth c Q G kc ks 8 τ 226 (lvH G b t) []) : o_V p l e room_1 s m #[.ref b] below meth c Q G kc ks 8 σ 120 (lvB G b t x y) [] := by
  have hn := h.2.2.2
  have vE := h.2.1.2.2.2.2.2.2.2.2.2.2.2.1
  have vC := h.2.1.2.2.2.2.2.2.2.2.2.2.2.2
  have v7 := h.2.1.2.2.2.2.2.2.2.1
  refine r_aload_n hc 4 dL_law_120 rfl rfl ?_
  refine w_sum hc hk h dL_law_121 ?_
  refine r_lstore (lv' := lvC G b t x y (uS v)) hc dL_law_124 (by decide) rfl ?_
  refine r_aload_n hc 5 dL_law_126 rfl rfl ?_
  refine r_iload hc 1 dL_law_127 rfl ?_
  refine r_iconst (v := 3) hc dL_law_129 rfl ?_
  refine w_low hc hk (D := 3) rfl (by omega) (Nat.le_of_ble_eq_true rfl) dL_law_130 (fun k1 b1 => ?_)
  refine r_iload hc 1 dL_law_133 rfl ?_
  refine r_iconst (v := 3) hc dL_law_135 rfl ?_
  refine r_ishr hc dL_law_136 ?_
  refine r_bipush (v := 8) hc dL_law_137 (by decide) ?_
  refine w_low hc hk (D := 8) rfl (by omega) (Nat.le_of_ble_eq_true rfl) dL_law_139 (fun k2 b2 => ?_)
  refine r_iload hc 1 dL_law_142 rfl ?_
  refine r_bipush (v := 6) hc dL_law_144 (by decide) ?_
  refine r_ishr hc dL_law_146 ?_
  refine r_bipush (v := 41) hc dL_law_147 (by decide) ?_
  refine w_low hc hk (D := 41) rfl (by omega) (Nat.le_of_ble_eq_true rfl) dL_law_149 (fun k3 b3 => ?_)
  refine r_bipush (v := 20) hc dL_law_152 (by decide) ?_
  refine r_isub hc dL_law_154 ?_
  have e3 : zI (k3 : Int) - 20 = zI ((k3 : Int) - 20) := z_sub k3 20
  rw [e3]
  obtain ⟨r1, τ1, r2, r3⟩ := k_correct h (t := k1) (s := k2) (P := (k3 : Int) - 20) b1 b2 (by omega)
  refine r_callV_i (as := [.int (zI k1), .int (zI k2), .int (zI ((k3 : Int) - 20))]) hc (c_X5_correct l G r1) kk5 (o_lt hc (by decide)) rfl mV_X5_correct kM_L_63 ⟨Nat.le_of_ble_eq_true rfl, Nat.le_of_ble_eq_true rfl⟩ (room_le hk) rfl rfl (Nat.le_of_ble_eq_true rfl) dL_law_155 (fun z σ' q => ?_)
  rw [r2] at q
  obtain ⟨rfl, hz⟩ := q
  have hz := hz.symm
  subst hz
  refine r_bipush (v := 80) hc dL_law_158 (by decide) ?_
  have w1 := vC (38 + (8 * k1 + k2)) (by omega) (by omega)
  refine r_icmp_lt (tgt := 224) hc dL_law_160 (by decide) (fun c => absurd c (n_lt (b := 80) (by omega) (by unfold zB; omega) (by unfold zB; omega))) (fun _ => ?_)
  refine r_aload_n hc 5 dL_law_163 rfl rfl ?_
  refine r_iconst (v := 0) hc dL_law_164 rfl ?_
  refine r_iload hc 1 dL_law_165 rfl ?_
  refine r_bipush (v := 41) hc dL_law_167 (by decide) ?_
  refine w_low hc hk (D := 41) rfl (by omega) (Nat.le_of_ble_eq_true rfl) dL_law_169 (fun k4 b4 => ?_)
  obtain ⟨s1, τ2, s2, s3⟩ := k_setting r3 (t := 0) (P := (k4 : Int)) (by omega) (by unfold sLo sHi; rw [if_neg (by omega), if_neg (by omega), if_pos rfl]; omega)
  have s2' : f_X5_set 0 (zI k4) τ1 = (zI (if 0 = 3 then (vu v (38 + (8 * k1 + k2)) ((k3 : Int) - 20)) (7 + 0) + 100 else (vu v (38 + (8 * k1 + k2)) ((k3 : Int) - 20)) (7 + 0) + 0), τ2) := s2
  refine r_callV_i (as := [.int 0, .int (zI k4)]) hc (c_X5_set l G (show ok_X5_set 0 (zI k4) τ1 from s1)) kk5 (o_lt hc (by decide)) rfl mV_X5_set kM_L_60 ⟨Nat.le_of_ble_eq_true rfl, Nat.le_of_ble_eq_true rfl⟩ (room_le hk) rfl rfl (Nat.le_of_ble_eq_true rfl) dL_law_172 (fun z σ' q => ?_)
  rw [s2'] at q
  obtain ⟨rfl, hz⟩ := q
  have hz := hz.symm
  subst hz
  have w7 := r3.2.1.2.2.2.2.2.2.2.1
  have w7' : 0 ≤ (vu v (38 + (8 * k1 + k2)) ((k3 : Int) - 20)) (7 + 0) ∧ (vu v (38 + (8 * k1 + k2)) ((k3 : Int) - 20)) (7 + 0) ≤ 40 := w7
  refine r_if_lt (tgt := 224) hc dL_law_175 (by decide) (fun c => absurd c (n_lt (b := 0) (by rw [if_neg (by omega)]; omega) (by rw [if_neg (by omega)]; unfold zB; omega) (by unfold zB; omega))) (fun _ => ?_)
  refine r_aload_n hc 5 dL_law_178 rfl rfl ?_
  refine r_iconst (v := 1) hc dL_law_179 rfl ?_
  refine r_iconst (v := 4) hc dL_law_180 rfl ?_
  obtain ⟨u1, τ3, u2, u3⟩ := k_noise s3 (t := 1) (P := 4) (by omega) (by omega)
  refine r_callV_i (as := [.int 1, .int 4]) hc (c_X5_noise l G (show ok_X5_noise 1 4 τ2 from u1)) kk5 (o_lt hc (by decide)) rfl mV_X5_noise kM_L_57 ⟨Nat.le_of_ble_eq_true rfl, Nat.le_of_ble_eq_true rfl⟩ (room_le hk) rfl rfl (Nat.le_of_ble_eq_true rfl) dL_law_181 (fun z σ' q => ?_)
  have u2' : f_X5_noise 1 4 τ2 = (_, τ3) := u2
  rw [u2'] at q
  obtain ⟨rfl, hz⟩ := q
  have hz := hz.symm
  subst hz
  have w9 := s3.2.1.2.2.2.2.2.2.2.2.2.2.2.1 (35 + 1) (by omega) (by omega)
  refine r_bipush (v := 90) hc dL_law_184 (by decide) ?_
  refine r_icmp_le (tgt := 224) hc dL_law_186 (by decide) (fun c => absurd c (n_le (b := 90) (by omega) (by unfold zB; omega) (by unfold zB; omega))) (fun _ => ?_)
  exact L189 hc hk hn u3 kk
/-- one round of the law's loop, behind the act -/
theorem L108 (hc : o_Cx p s m #[.ref b] meth c G cL_law RL 8) (hk : kc ≤ 1000 ∧ ks ≤ 1000) {t x y : Int32} (h : IS N σ v n hs) (kk : ∀ (τ : Sg) (n' : Nat) (hs' : Nat → Nat → Int), IS N τ v n' hs' → o_V p l e room_1 s m #[.ref b] below meth c Q G kc ks 8 τ 226 (lvH G b t) []) : o_V p l e room_1 s m #[.ref b] below meth c Q G kc ks 8 σ 102 (lvB G b t x y) [] := by
  refine r_iconst (v := 1) hc dL_law_102 rfl ?_
  refine r_goto (tgt := 107) hc dL_law_103 (by decide) ?_
  refine r_istore_n (lv' := [(2, .int 1), (5, .int y), (4, .int x), (3, .int t), (1, .ref (gAd G 0)), (0, .ref b)]) hc dL_law_107 rfl (by decide) rfl ?_
  refine r_iload_n hc 0 dL_law_108 rfl rfl ?_
  refine r_if_eq (tgt := 226) hc dL_law_109 (by decide) (fun c => absurd c (by decide)) (fun _ => ?_)
  refine r_iload_n hc 3 dL_law_112 rfl rfl ?_
  refine r_bipush (v := 6) hc dL_law_113 (by decide) ?_
  refine r_irem hc dL_law_115 (by decide) ?_
  refine r_iconst (v := 5) hc dL_law_116 rfl ?_
  refine r_icmp_ne (tgt := 226) hc dL_law_117 (by decide) (fun _ => ?_) (fun _ => ?_)
  · exact o_V.sub (kk σ n hs h) [3, 0, 4, 5] rfl
  · exact o_V.sub (L120 hc hk h kk) [1, 2, 3, 0, 4, 5] rfl
/-- the law's end -/
theorem L232 (hc : o_Cx p s m #[.ref b] meth c G cL_law RL 8) (hlo : gLo G = s.heap.size) (hr : meth.sig.returnType = ret) (hk : kc ≤ 1000 ∧ ks ≤ 1000) {t : Int32} (h : IS N σ v n hs) : o_V p l e room_1 s m #[.ref b] below meth c (lw_Z below #[.ref b] s) G kc ks 8 σ 232 (lvH G b t) [] := by
  refine r_iload_n hc 1 dL_law_232 rfl rfl ?_
  refine r_if_eq (tgt := 254) hc dL_law_233 (by decide) (fun c => absurd c (by decide)) (fun _ => ?_)
  refine r_aload_n hc 2 dL_law_236 rfl rfl ?_
  refine w_refused hc hk h dL_law_237 ?_
  refine r_if_eq (tgt := 254) hc dL_law_240 (by decide) (fun c => absurd c (by decide)) (fun _ => ?_)
  refine r_aload_n hc 2 dL_law_243 rfl rfl ?_
  refine w_fits hc hk h dL_law_244 (fun τ h1 => ?_)
  refine r_if_eq (tgt := 254) hc dL_law_247 (by decide) (fun c => absurd c (by decide)) (fun _ => ?_)
  refine r_iconst (v := 1) hc dL_law_250 rfl ?_
  refine r_goto (tgt := 255) hc dL_law_251 (by decide) ?_
  intro H locs ls hP hS hl
  refine va_forget (fun q hq => ?_) ?_
  · have h := hS.2.2 q hq
    rw [← hlo]
    exact h
  · exact W.widen (k := 600000) (n := 7302250) (by omega) (by omega) (lw_ret hc.1 hc.2.1 hr hc.2.2.2.2.2.2 dL_law_255)
theorem L39 (hc : o_Cx p s m #[.ref b] meth c G cL_law RL 8) (hG : gN G = 34) (hlo : gLo G = s.heap.size) (hr : meth.sig.returnType = ret) (hX : va_X b L xs s s.heap) (hbl : b < s.heap.size) (hL : L ≤ 260) : ∀ (k t : Nat) (σ : Sg) (v : Nat → Int) (n : Nat) (hs : Nat → Nat → Int) (kc ks : Nat), t + k = 40 → kc ≤ 34 + t → ks ≤ 465 + 3 * t → IS (t : Int) σ v n hs → o_V p l e room_1 s m #[.ref b] below meth c (lw_Z below #[.ref b] s) G kc ks 8 σ 39 (lvH G b (zI t)) [] := by
  have hbA : ¬ o_A G b := by
    show ¬ gLo G ≤ b
    omega
  intro k
  induction k with
  | zero =>
    intro t σ v n hs kc ks h1 h2 h3 h
    refine r_iload_n hc 0 dL_law_39 rfl rfl ?_
    refine r_bipush (v := 40) hc dL_law_40 (by decide) ?_
    refine r_icmp_ge (tgt := 232) hc dL_law_42 (by decide) (fun _ => ?_) (fun c => absurd (y_le (a := 40) (by omega) (by unfold zB; omega) (by unfold zB; omega)) c)
    exact L232 hc hlo hr (by omega) h
  | succ k ih =>
    intro t σ v n hs kc ks h1 h2 h3 h
    refine r_iload_n hc 0 dL_law_39 rfl rfl ?_
    refine r_bipush (v := 40) hc dL_law_40 (by decide) ?_
    refine r_icmp_ge (tgt := 232) hc dL_law_42 (by decide) (fun c => absurd c (n_le (a := 40) (by omega) (by unfold zB; omega) (by unfold zB; omega))) (fun _ => ?_)
    refine r_iload_n hc 1 dL_law_45 rfl rfl ?_
    refine r_if_eq (tgt := 232) hc dL_law_46 (by decide) (fun c => absurd c (by decide)) (fun _ => ?_)
    refine r_aload_n hc 3 dL_law_49 rfl rfl ?_
    refine r_iconst (v := 2) hc dL_law_50 rfl ?_
    refine r_iload_n hc 0 dL_law_51 rfl rfl ?_
    refine r_imul hc dL_law_52 ?_
    have e2 : 2 * zI (t : Int) = zI ((2 * t : Nat) : Int) := (z_mul 2 t).trans (by congr 1)
    refine w_cell hc (by omega) hX hbl hbA hL e2 (by omega) dL_law_53 (fun x => ?_)
    refine r_istore (lv' := [(4, .int x), (3, .int (zI t)), (2, .int 1), (1, .ref (gAd G 0)), (0, .ref b)]) hc dL_law_56 (by decide) rfl ?_
    refine r_aload_n hc 4 dL_law_58 rfl rfl ?_
    refine r_iconst (v := 2) hc dL_law_59 rfl ?_
    refine r_iload_n hc 1 dL_law_60 rfl rfl ?_
    refine r_imul hc dL_law_61 ?_
    refine r_iconst (v := 1) hc dL_law_62 rfl ?_
    refine r_iadd hc dL_law_63 ?_
    have e3 : 2 * zI (t : Int) + 1 = zI ((2 * t + 1 : Nat) : Int) := by
      rw [e2]
      exact z_s (2 * t)
    refine w_cell hc (by omega) hX hbl hbA hL e3 (by omega) dL_law_64 (fun y => ?_)
    refine r_istore (lv' := lvB G b (zI t) x y) hc dL_law_67 (by decide) rfl ?_
    refine r_aload_n hc 4 dL_law_69 rfl rfl ?_
    refine r_iload hc 1 dL_law_70 rfl ?_
    refine r_iload hc 0 dL_law_72 rfl ?_
    refine w_acts hc hG (by omega) h (by omega) (by omega) dL_law_74 (fun τ1 v1 n1 g1 i1 => ?_)
    refine r_if_eq (tgt := 106) hc dL_law_77 (by decide) (fun c => absurd c (by decide)) (fun _ => ?_)
    refine r_aload_n hc 4 dL_law_80 rfl rfl ?_
    refine w_fits hc (by omega) i1 dL_law_81 (fun τ2 i2 => ?_)
    refine r_if_eq (tgt := 106) hc dL_law_84 (by decide) (fun c => absurd c (by decide)) (fun _ => ?_)
    refine r_iload_n hc 2 dL_law_87 rfl rfl ?_
    refine r_bipush (v := 9) hc dL_law_88 (by decide) ?_
    refine r_irem hc dL_law_90 (by decide) ?_
    refine r_iconst (v := 5) hc dL_law_91 rfl ?_
    have nx : ∀ (τ : Sg) (n' : Nat) (hs' : Nat → Nat → Int), IS ((t : Int) + 1) τ v1 n' hs' → o_V p l e room_1 s m #[.ref b] below meth c (lw_Z below #[.ref b] s) G (kc + 1) (ks + 3) 8 τ 226 (lvH G b (zI t)) [] := fun τ n' hs' i => by
      refine r_iinc (v := zI ((t + 1 : Nat) : Int)) (lv' := lvH G b (zI ((t + 1 : Nat) : Int))) hc dL_law_226 (q := 0) rfl (z_s t) (by decide) rfl ?_
      refine r_goto (tgt := 39) hc dL_law_229 (by decide) ?_
      exact ih (t + 1) τ v1 n' hs' (kc + 1) (ks + 3) (by omega) (by omega) (by omega) (by
        have e : ((t + 1 : Nat) : Int) = (t : Int) + 1 := by omega
        rw [e]
        exact i)
    refine r_icmp_ne (tgt := 102) hc dL_law_92 (by decide) (fun _ => ?_) (fun _ => ?_)
    · exact L108 hc (by omega) i2 nx
    · refine r_aload_n hc 4 dL_law_95 rfl rfl ?_
      refine w_refused hc (by omega) i2 dL_law_96 ?_
      refine r_if_eq (tgt := 106) hc dL_law_99 (by decide) (fun c => absurd c (by decide)) (fun _ => ?_)
      exact L108 hc (by omega) i2 nx
/-- behind the constructor -/
theorem L8 (hc : o_Cx p s m #[.ref b] meth c G cL_law RL 8) (hG : gN G = 34) (hlo : gLo G = s.heap.size) (hr : meth.sig.returnType = ret) (hX : va_X b L xs s s.heap) (hbl : b < s.heap.size) (hL : L ≤ 260) (h : IS 0 σ v 0 hs) : o_V p l e room_1 s m #[.ref b] below meth c (lw_Z below #[.ref b] s) G 34 465 8 σ 8 [(1, .ref (gAd G 0)), (0, .ref b)] [] := by
  have u := k_undo0 h rfl
  refine r_aload_n hc 0 dL_law_8 rfl rfl ?_
  refine r_callV_i (as := []) hc (c_X5_undo l G u.1) kk5 (o_lt hc (by decide)) rfl mV_X5_undo kM_L_131 ⟨Nat.le_of_ble_eq_true rfl, Nat.le_of_ble_eq_true rfl⟩ (room_le (by omega)) rfl rfl (Nat.le_of_ble_eq_true rfl) dL_law_9 (fun z σ' q => ?_)
  rw [u.2] at q
  obtain ⟨rfl, rfl⟩ := q
  refine r_bipush (v := -2) hc dL_law_12 (by decide) ?_
  refine r_icmp_ne (tgt := 35) hc dL_law_14 (by decide) (fun c => absurd rfl c) (fun _ => ?_)
  refine r_aload_n hc 0 dL_law_17 rfl rfl ?_
  refine w_refused hc (by omega) h dL_law_18 ?_
  refine r_if_eq (tgt := 35) hc dL_law_21 (by decide) (fun c => absurd c (by decide)) (fun _ => ?_)
  refine r_aload_n hc 0 dL_law_24 rfl rfl ?_
  refine w_fits hc (by omega) h dL_law_25 (fun τ i => ?_)
  refine r_if_eq (tgt := 35) hc dL_law_28 (by decide) (fun c => absurd c (by decide)) (fun _ => ?_)
  refine r_iconst (v := 1) hc dL_law_31 rfl ?_
  refine r_goto (tgt := 36) hc dL_law_32 (by decide) ?_
  refine r_istore_n (lv' := [(2, .int 1), (1, .ref (gAd G 0)), (0, .ref b)]) hc dL_law_36 rfl (by decide) rfl ?_
  refine r_iconst (v := 0) hc dL_law_37 rfl ?_
  refine r_istore_n (lv' := lvH G b 0) hc dL_law_38 rfl (by decide) rfl ?_
  exact L39 hc hG hlo hr hX hbl hL 40 0 τ v 0 hs 34 465 (by omega) (by omega) (by omega) i
end LAWB
