set_option linter.all false
section LAW2
variable {p : Program} {l : Launch} {e : Env} {s : State} {m : MethodId} {below : List Frame} {meth : Method} {c : Code} {Q : State → Prop} {G : Gt} {b L : Nat} {xs : Nat → Int32} {σ : Sg}
theorem law_sw (hc : o_Cx p s m #[.ref b] meth c G cL_law RL 4) (hX : va_X b L xs s s.heap) (hbl : b < s.heap.size) (hlo : gLo G = s.heap.size) {i x : Int32} {N : Int} (hin : lIn i L) (h0 : 0 ≤ N) (hN : N ≤ 1000000000) (hI : SI N σ) (kk : ∀ σ' : Sg, SI (N + 1) σ' → o_V p l e room_1 s m #[.ref b] below meth c Q G 41 916 4 σ' 800 (lvL G b i) []) (k0 : o_V p l e room_1 s m #[.ref b] below meth c Q G 41 916 4 σ 800 (lvL G b i) []) : o_V p l e room_1 s m #[.ref b] below meth c Q G 41 916 4 σ 32 (lvL G b i) [.int x] := by
  obtain ⟨X, hX', rfl⟩ := zarg x
  by_cases a0 : X = 0
  · rw [a0]
    exact r_tabIn (k := 0) (off := 120) (tgt := 152) hc dL_law_32 rfl (by decide) (by decide) rfl (by decide) (lc_0 hc hX hbl hlo hin h0 hN hI kk)
  by_cases a1 : X = 1
  · rw [a1]
    exact r_tabIn (k := 1) (off := 143) (tgt := 175) hc dL_law_32 rfl (by decide) (by decide) rfl (by decide) (lc_1 hc hX hbl hlo hin h0 hN hI kk)
  by_cases a2 : X = 2
  · rw [a2]
    exact r_tabIn (k := 2) (off := 166) (tgt := 198) hc dL_law_32 rfl (by decide) (by decide) rfl (by decide) (lc_2 hc hX hbl hlo hin h0 hN hI kk)
  by_cases a3 : X = 3
  · rw [a3]
    exact r_tabIn (k := 3) (off := 189) (tgt := 221) hc dL_law_32 rfl (by decide) (by decide) rfl (by decide) (lc_3 hc hX hbl hlo hin h0 hN hI kk)
  by_cases a4 : X = 4
  · rw [a4]
    exact r_tabIn (k := 4) (off := 212) (tgt := 244) hc dL_law_32 rfl (by decide) (by decide) rfl (by decide) (lc_4 hc hX hbl hlo hin h0 hN hI kk)
  by_cases a5 : X = 5
  · rw [a5]
    exact r_tabIn (k := 5) (off := 235) (tgt := 267) hc dL_law_32 rfl (by decide) (by decide) rfl (by decide) (lc_5 hc hX hbl hlo hin h0 hN hI kk)
  by_cases a6 : X = 6
  · rw [a6]
    exact r_tabIn (k := 6) (off := 248) (tgt := 280) hc dL_law_32 rfl (by decide) (by decide) rfl (by decide) (lc_6 hc hX hbl hlo hin h0 hN hI kk)
  by_cases a7 : X = 7
  · rw [a7]
    exact r_tabIn (k := 7) (off := 291) (tgt := 323) hc dL_law_32 rfl (by decide) (by decide) rfl (by decide) (lc_7 hc hX hbl hlo hin h0 hN hI kk)
  by_cases a8 : X = 8
  · rw [a8]
    exact r_tabIn (k := 8) (off := 324) (tgt := 356) hc dL_law_32 rfl (by decide) (by decide) rfl (by decide) (lc_8 hc hX hbl hlo hin h0 hN hI kk)
  by_cases a9 : X = 9
  · rw [a9]
    exact r_tabIn (k := 9) (off := 357) (tgt := 389) hc dL_law_32 rfl (by decide) (by decide) rfl (by decide) (lc_9 hc hX hbl hlo hin h0 hN hI kk)
  by_cases a10 : X = 10
  · rw [a10]
    exact r_tabIn (k := 10) (off := 380) (tgt := 412) hc dL_law_32 rfl (by decide) (by decide) rfl (by decide) (lc_10 hc hX hbl hlo hin h0 hN hI kk)
  by_cases a11 : X = 11
  · rw [a11]
    exact r_tabIn (k := 11) (off := 433) (tgt := 465) hc dL_law_32 rfl (by decide) (by decide) rfl (by decide) (lc_11 hc hX hbl hlo hin h0 hN hI kk)
  by_cases a12 : X = 12
  · rw [a12]
    exact r_tabIn (k := 12) (off := 486) (tgt := 518) hc dL_law_32 rfl (by decide) (by decide) rfl (by decide) (lc_12 hc hX hbl hlo hin h0 hN hI kk)
  by_cases a13 : X = 13
  · rw [a13]
    exact r_tabIn (k := 13) (off := 529) (tgt := 561) hc dL_law_32 rfl (by decide) (by decide) rfl (by decide) (lc_13 hc hX hbl hlo hin h0 hN hI kk)
  by_cases a14 : X = 14
  · rw [a14]
    exact r_tabIn (k := 14) (off := 562) (tgt := 594) hc dL_law_32 rfl (by decide) (by decide) rfl (by decide) (lc_14 hc hX hbl hlo hin h0 hN hI kk)
  by_cases a15 : X = 15
  · rw [a15]
    exact r_tabIn (k := 15) (off := 575) (tgt := 607) hc dL_law_32 rfl (by decide) (by decide) rfl (by decide) (lc_15 hc hX hbl hlo hin h0 hN hI kk)
  by_cases a16 : X = 16
  · rw [a16]
    exact r_tabIn (k := 16) (off := 598) (tgt := 630) hc dL_law_32 rfl (by decide) (by decide) rfl (by decide) (lc_16 hc hX hbl hlo hin h0 hN hI kk)
  by_cases a17 : X = 17
  · rw [a17]
    exact r_tabIn (k := 17) (off := 631) (tgt := 663) hc dL_law_32 rfl (by decide) (by decide) rfl (by decide) (lc_17 hc hX hbl hlo hin h0 hN hI kk)
  by_cases a18 : X = 18
  · rw [a18]
    exact r_tabIn (k := 18) (off := 644) (tgt := 676) hc dL_law_32 rfl (by decide) (by decide) rfl (by decide) (lc_18 hc hX hbl hlo hin h0 hN hI kk)
  by_cases a19 : X = 19
  · rw [a19]
    exact r_tabIn (k := 19) (off := 657) (tgt := 689) hc dL_law_32 rfl (by decide) (by decide) rfl (by decide) (lc_19 hc hX hbl hlo hin h0 hN hI kk)
  by_cases a20 : X = 20
  · rw [a20]
    exact r_tabIn (k := 20) (off := 670) (tgt := 702) hc dL_law_32 rfl (by decide) (by decide) rfl (by decide) (lc_20 hc hX hbl hlo hin h0 hN hI kk)
  by_cases a21 : X = 21
  · rw [a21]
    exact r_tabIn (k := 21) (off := 683) (tgt := 715) hc dL_law_32 rfl (by decide) (by decide) rfl (by decide) (lc_21 hc hX hbl hlo hin h0 hN hI kk)
  by_cases a22 : X = 22
  · rw [a22]
    exact r_tabIn (k := 22) (off := 696) (tgt := 728) hc dL_law_32 rfl (by decide) (by decide) rfl (by decide) (lc_22 hc hX hbl hlo hin h0 hN hI kk)
  by_cases a23 : X = 23
  · rw [a23]
    exact r_tabIn (k := 23) (off := 719) (tgt := 751) hc dL_law_32 rfl (by decide) (by decide) rfl (by decide) (lc_23 hc hX hbl hlo hin h0 hN hI kk)
  by_cases a24 : X = 24
  · rw [a24]
    exact r_tabIn (k := 24) (off := 732) (tgt := 764) hc dL_law_32 rfl (by decide) (by decide) rfl (by decide) (lc_24 hc hX hbl hlo hin h0 hN hI kk)
  by_cases a25 : X = 25
  · rw [a25]
    exact r_tabIn (k := 25) (off := 755) (tgt := 787) hc dL_law_32 rfl (by decide) (by decide) rfl (by decide) (lc_25 hc hX hbl hlo hin h0 hN hI kk)
  refine r_tabOut (tgt := 800) hc dL_law_32 ?_ (by decide) k0
  rw [z_int hX']
  omega
theorem law_loop (hc : o_Cx p s m #[.ref b] meth c G cL_law RL 4) (hX : va_X b L xs s s.heap) (hbl : b < s.heap.size) (hlo : gLo G = s.heap.size) (hL : L ≤ 2560) (hr : meth.sig.returnType = ret) : ∀ (n I : Nat) (N : Int) (σ : Sg), I ≤ L → L < I + n → 0 ≤ N → N ≤ I → SI N σ → o_V p l e room_1 s m #[.ref b] below meth c (lw_Z below #[.ref b] s) G 41 916 4 σ 18 (lvL G b (zI I)) [] := by
  intro n
  induction n with
  | zero => intro I N σ h1 h2; omega
  | succ n ih =>
    intro I N σ h1 h2 h3 h4 hI
    refine r_iload_n hc 3 dL_law_18 rfl rfl ?_
    refine r_aload_n hc 0 dL_law_19 rfl rfl ?_
    refine r_slen hc hX hbl hlo dL_law_20 ?_
    refine r_iconst (v := 5) hc dL_law_21 rfl ?_
    refine r_isub hc dL_law_22 ?_
    have e5 : Int32.ofNat L - 5 = zI ((L : Int) - 5) := by
      rw [z_on]
      exact z_sub _ 5
    rw [e5]
    refine r_icmp_gt (tgt := 806) hc dL_law_23 (by decide) (fun _ => ?_) (fun q => ?_)
    · refine r_iconst (v := 1) hc dL_law_806 rfl ?_
      intro H locs ls hP hS hl
      refine va_forget (fun q hq => ?_) ?_
      · have h := hS.2.2 q hq
        rw [← hlo]
        exact h
      · exact lw_ret hc.1 hc.2.1 hr hc.2.2.2.2.2.2 dL_law_807
    · have q' : I + 5 ≤ L := by
        have g : ¬ ((L : Int) - 5 < I) := fun d => q ((z_lt (by unfold zB; omega) (by unfold zB; omega)).mpr d)
        omega
      have hin : lIn (zI I) L := by
        have e1 : zI (I : Int) + 1 = zI ((I + 1 : Nat) : Int) := zk 1
        have e2 : zI (I : Int) + 2 = zI ((I + 2 : Nat) : Int) := zk 2
        have e3 : zI (I : Int) + 3 = zI ((I + 3 : Nat) : Int) := zk 3
        have e4 : zI (I : Int) + 4 = zI ((I + 4 : Nat) : Int) := zk 4
        unfold lIn
        rw [e1, e2, e3, e4]
        exact ⟨z_in (by omega) (by omega) (by omega), z_in (by omega) (by omega) (by omega), z_in (by omega) (by omega) (by omega), z_in (by omega) (by omega) (by omega)⟩
      have nx : ∀ (M : Int) (σ' : Sg), 0 ≤ M → M ≤ N + 1 → SI M σ' → o_V p l e room_1 s m #[.ref b] below meth c (lw_Z below #[.ref b] s) G 41 916 4 σ' 800 (lvL G b (zI I)) [] := fun M σ' m0 m1 hI' => by
        refine r_iinc (v := zI ((I + 5 : Nat) : Int)) (lv' := [(3, .int (zI ((I + 5 : Nat) : Int))), (0, .ref b), (1, .ref (gAd G 0)), (2, .ref (gAd G 34))]) hc dL_law_800 (q := 3) rfl (zk (i := I) 5) (by decide) rfl ?_
        refine r_goto (tgt := 18) hc dL_law_803 (by decide) ?_
        exact o_V.sub (ih (I + 5) M σ' q' (by omega) m0 (by omega) hI') [1, 2, 3, 0] rfl
      refine r_aload_n hc 0 dL_law_26 rfl rfl ?_
      refine r_iload_n hc 3 dL_law_27 rfl rfl ?_
      refine r_sld hc hX hbl hlo (z_in (by omega) (by omega) (by omega)) dL_law_28 ?_
      refine r_bipush (v := 31) hc dL_law_29 rfl ?_
      refine r_iand hc dL_law_31 ?_
      exact law_sw hc hX hbl hlo hin h3 (by omega) hI (fun σ' h => nx (N + 1) σ' (by omega) (by omega) h) (nx N σ h3 (by omega) hI)
end LAW2
