set_option linter.all false
/-! calls that change none of the 62 numbers, and the law's leaves -/
/-- cells that differ: those of the findings and the trial alone -/
def sm (σ τ : Sg) : Prop := ∀ c, c ≠ 28 → c ≠ 29 → τ c = σ c
theorem sm.rf {σ : Sg} : sm σ σ := fun _ _ _ => rfl
theorem sm.tr {σ τ u : Sg} (h : sm σ τ) (g : sm τ u) : sm σ u := fun c a b => (g c a b).trans (h c a b)
section K2
variable {N : Int} {σ : Sg} {v : Nat → Int} {n : Nat} {hs : Nat → Nat → Int}
theorem IS.sm {τ : Sg} (h : IS N σ v n hs) (g : sm σ τ) : IS N τ v n hs :=
  ⟨h.1.fr (fun c hc => g c (by omega) (by omega)) (by rw [g 30 (by omega) (by omega)]) (g 31 (by omega) (by omega)), h.2⟩
theorem k_look (h : IS N σ v n hs) {P : Int} (q : 0 ≤ P ∧ P ≤ 4) : ok_X5_look (zI P) σ ∧ ∃ τ, f_X5_look (zI P) σ = (zI (lookR v P), τ) ∧ IS N τ v n hs ∧ sm σ τ := by
  have hv := h.2.1
  have hC := h.1
  have hP : zB P := by unfold zB; omega
  have eC : ∀ s : Sg, (f_X5_isOutside (zI P) 0 4 s = 0) ↔ (0 ≤ P ∧ P ≤ 4) := fun s => out_iff (b := 0) (c := 4) hP (by unfold zB; omega) (by unfold zB; omega)
  have ba := aAng_b v
  have bl := fL_b v (aAng v)
  have el : (zI (fL v (aAng v)) = zI (aAng v)) ↔ fL v (aAng v) = aAng v := z_eq (by unfold zB; omega) (by unfold zB; omega)
  have a1 := ang_C hC.nc hv.1
  have s1 := se_C hC.nc hv ba
  obtain ⟨w, hw⟩ : ∃ w : Sg, w = f_X1_search (f_X3_angle σ) σ := ⟨_, rfl⟩
  obtain ⟨w0, w1, w2, w3, wf⟩ := s1.2 w (by rw [hw, a1.2])
  have aw := ang_C (wf.nc hC.nc) hv.1
  have hm : sm σ w := fun c a b => wf.1 c a
  refine ⟨⟨out_ok, ⟨fun _ => ⟨a1.1, by rw [a1.2]; exact s1.1, ?_⟩, fun _ => trivial⟩⟩, w, ?_, h.sm hm, hm⟩
  · dsimp only
    rw [← hw]
    exact ⟨fun _ => trivial, fun _ => ⟨fun _ => trivial, fun _ => ⟨fun _ => trivial, fun _ => ⟨fun _ => trivial, fun _ => ⟨aw.1, ⟨fun _ => ⟨⟨fun _ => trivial, fun _ => trivial⟩, trivial⟩, fun _ => ⟨⟨fun _ => trivial, fun _ => trivial⟩, trivial⟩⟩⟩⟩⟩⟩⟩
  · unfold f_X5_look f_X5_look_114
    rw [itp ((eC _).mpr q)]
    dsimp only
    rw [← hw, w0, w1, w2, w3, aw.2, it_iff (zq0 hP), it_iff (zq1 hP), it_iff (zq2 hP), it_iff (zq3 hP), it_iff el]
    unfold lookR
    by_cases c0 : P = 0
    · rw [itp c0, if_pos c0]
    · rw [itn c0, if_neg c0]
      by_cases c1 : P = 1
      · rw [itp c1, if_pos c1]
      · rw [itn c1, if_neg c1]
        by_cases c2 : P = 2
        · rw [itp c2, if_pos c2]
        · rw [itn c2, if_neg c2]
          by_cases c3 : P = 3
          · rw [itp c3, if_pos c3]
          · rw [itn c3, if_neg c3]
            unfold f_X5_toNumber
            by_cases c4 : fL v (aAng v) = aAng v
            · rw [itp c4, if_pos c4, itn (by decide)]; rfl
            · rw [itn c4, if_neg c4, itp rfl]; rfl
theorem k_count (h : IS N σ v n hs) {P : Int} (hP : zB P) : ok_X5_count (zI P) σ ∧ f_X5_count (zI P) σ = zI (cR v n 0 P) := cnt_C h.1 h.2.1 hP
theorem k_corr (h : IS N σ v n hs) {t s : Nat} (ht : t < 3) (hs8 : s < 8) : ok_X5_correction (zI t) (zI s) σ ∧ f_X5_correction (zI t) (zI s) σ = zI (v (38 + (8 * t + s)) + 100) := by
  have hP1 : zB (t : Int) := by unfold zB; omega
  have hP2 : zB (s : Int) := by unfold zB; omega
  have q1 : (0 ≤ (t : Int) ∧ (t : Int) ≤ 2) ∧ 0 ≤ (s : Int) ∧ (s : Int) ≤ 7 := by omega
  refine ⟨⟨ce_okC, ⟨fun _ => trivial, fun _ => ⟨trivial, at_ok (by decide), trivial⟩⟩⟩, ?_⟩
  unfold f_X5_correction
  rw [itn (fun c => (ce_C hP1 hP2).mp c q1), cell_C, at_in (show 8 * t + s < o_len 5 by show _ < 24; omega) (by decide)]
  show σ 5 (8 * t + s) + 100 = _
  rw [h.nc.cor (by omega)]
  exact z_add _ 100
theorem k_read (h : IS N σ v n hs) {t : Nat} (ht : t < 3) : ok_X5_reading (zI t) σ ∧ f_X5_reading (zI t) σ = zI (aRd v t (aAng v)) := by
  have hP1 : zB (t : Int) := by unfold zB; omega
  have q1 : 0 ≤ (t : Int) ∧ (t : Int) ≤ 2 := by omega
  have a1 := ang_C h.nc h.2.1.1
  have r1 := rd_C (t := t) h.nc h.2.1 ht (aAng_b v)
  refine ⟨⟨tr_okC, ⟨fun _ => trivial, fun _ => ⟨a1.1, by rw [a1.2]; exact r1.1, trivial⟩⟩⟩, ?_⟩
  unfold f_X5_reading
  rw [itn (fun c => (tr_C hP1).mp c q1), a1.2, r1.2]
def apR (v : Nat → Int) : Int := if v 5 = -1 then -4 else dist 65280 (v 5) (v 0)
theorem k_apart (h : IS N σ v n hs) : ok_X5_apart σ ∧ f_X5_apart σ = zI (apR v) := by
  have v5 := h.2.1.2.2.2.2.2.1
  have v0 := h.2.1.1
  have e1 : (zI (v 5) = -1) ↔ v 5 = -1 := by rw [z_m1]; exact z_eq (by unfold zB; omega) (by unfold zB; omega)
  unfold apR
  by_cases q : v 5 = -1
  · refine ⟨⟨fun _ => trivial, fun c => absurd (by rw [h.nc.s5]; exact e1.mpr q) c⟩, ?_⟩
    unfold f_X5_apart
    rw [h.nc.s5, itp (e1.mpr q), if_pos q]
    rfl
  · refine ⟨⟨fun _ => trivial, fun _ => ⟨dis_ok, trivial⟩⟩, ?_⟩
    unfold f_X5_apart
    rw [h.nc.s5, h.nc.s0, itn (fun c => q (e1.mp c)), if_neg q]
    exact dis_C (L := 65280) (by unfold zB; omega) (by unfold zB; omega) (by omega) (by omega)
theorem k_poor (h : IS N σ v n hs) : ok_X5_poor σ ∧ f_X5_poor σ = zI (pc v 0 8) := by
  have r := poor_C h.nc h.2.1 oF 0 0 (by omega) (by rw [oF_eq]; omega)
  rw [Int.zero_add] at r
  exact ⟨r.1, r.2⟩
theorem k_found (h : IS N σ v n hs) {P1 P2 P3 P4 : Int} (hr : rdg P1 P2 P3) (q4 : 0 ≤ P4 ∧ P4 ≤ 1) : ok_X5_found (zI P1) (zI P2) (zI P3) (zI P4) σ ∧ f_X5_found (zI P1) (zI P2) (zI P3) (zI P4) σ = zI (if P4 = 0 then near P1 P2 P3 else dev (near P1 P2 P3) P1 P2 P3) := by
  obtain ⟨q10, q11, q20, q21, q30, q31⟩ := hr
  have hP1 : zB P1 := by unfold zB; omega
  have hP2 : zB P2 := by unfold zB; omega
  have hP3 : zB P3 := by unfold zB; omega
  have hP4 : zB P4 := by unfold zB; omega
  have hr : rdg P1 P2 P3 := ⟨q10, q11, q20, q21, q30, q31⟩
  have c1 : ∀ s : Sg, (f_X5_isReading 0 (zI P1) s = 0) ↔ ¬ (0 ≤ P1 ∧ P1 < 272) := fun s => isR_C (t := 0) (by omega) hP1
  have c2 : ∀ s : Sg, (f_X5_isReading 1 (zI P2) s = 0) ↔ ¬ (0 ≤ P2 ∧ P2 < 255) := fun s => isR_C (t := 1) (by omega) hP2
  have c3 : ∀ s : Sg, (f_X5_isReading 2 (zI P3) s = 0) ↔ ¬ (0 ≤ P3 ∧ P3 < 240) := fun s => isR_C (t := 2) (by omega) hP3
  have c4 : ∀ s : Sg, (f_X5_isOutside (zI P4) 0 1 s = 0) ↔ (0 ≤ P4 ∧ P4 ≤ 1) := fun s => out_iff (b := 0) (c := 1) hP4 (by unfold zB; omega) (by unfold zB; omega)
  have k1 : ∀ s : Sg, ok_X5_isReading 0 (zI P1) s := fun s => isR_okC (t := 0)
  have k2 : ∀ s : Sg, ok_X5_isReading 1 (zI P2) s := fun s => isR_okC (t := 1)
  have k3 : ∀ s : Sg, ok_X5_isReading 2 (zI P3) s := fun s => isR_okC (t := 2)
  have nc := near_C (σ := σ) hr
  have nb := near_b P1 P2 P3
  have dc : f_X5_deviation (zI (near P1 P2 P3)) (zI P1) (zI P2) (zI P3) σ = zI (dev (near P1 P2 P3) P1 P2 P3) := dev_C ⟨by omega, by omega⟩ hr
  refine ⟨⟨k1 _, ⟨fun _ => trivial, fun _ => ⟨k2 _, ⟨fun _ => trivial, fun _ => ⟨k3 _, ⟨fun _ => trivial, fun _ => ⟨out_ok, ⟨fun _ => ⟨nc.1, ⟨fun _ => trivial, fun _ => ⟨dev_ok, trivial⟩⟩⟩, fun _ => trivial⟩⟩⟩⟩⟩⟩⟩⟩, ?_⟩
  unfold f_X5_found
  rw [itn (fun c => (c1 _).mp c ⟨q10, q11⟩), itn (fun c => (c2 _).mp c ⟨q20, q21⟩), itn (fun c => (c3 _).mp c ⟨q30, q31⟩), itp ((c4 _).mpr q4), nc.2, it_iff (zq0 hP4)]
  by_cases q : P4 = 0
  · rw [itp q, if_pos q]
  · rw [itn q, if_neg q]
    dsimp only
    rw [dc]
theorem k_sample (h : IS N σ v n hs) (hN0 : 0 ≤ N) (hN : N ≤ 1000000000) (q : ¬ v 1 = 0) : ok_X5_sample σ ∧ ∃ τ, f_X5_sample σ = (zI (sZ v (fL v (aAng v)) (fD v (aAng v))), τ) ∧ IS (N + 1) τ (sV v (fL v (aAng v)) (fD v (aAng v))) (pn n) (ph n hs v) := by
  have s := sample_C h.1 h.2.1 h.2.2.2 hN q
  refine ⟨s.1, IS.of (fun p e => ⟨(s.2 p e).1, (s.2 p e).2.1⟩) (sV_vs h.2.1 (fL_b _ _) hN0) (fun j hj => (ph_vs h.2.1 h.2.2.1 h.2.2.2 j hj).up (by omega)) (pn_le h.2.2.2)⟩
theorem k_sample0 (h : IS N σ v n hs) (q : v 1 = 0) : ok_X5_sample σ ∧ f_X5_sample σ = (-2, σ) := by
  have e1 : (zI (v 1) = 0) ↔ v 1 = 0 := zq0 (by unfold zB; omega)
  refine ⟨⟨fun _ => trivial, fun c => absurd (by rw [h.nc.s2]; exact e1.mpr q) c⟩, ?_⟩
  unfold f_X5_sample
  rw [h.nc.s2, itp (e1.mpr q)]
theorem k_reason0 (h : IS N σ v n hs) (q : v 1 = 0) : ok_X5_reason σ ∧ f_X5_reason σ = (-2, σ) := by
  have e1 : (zI (v 1) = 0) ↔ v 1 = 0 := zq0 (by unfold zB; omega)
  refine ⟨⟨fun _ => trivial, fun c => absurd (by rw [h.nc.s2]; exact e1.mpr q) c⟩, ?_⟩
  unfold f_X5_reason
  rw [h.nc.s2, itp (e1.mpr q)]
theorem k_reason (h : IS N σ v n hs) (hN : N ≤ 1000000000) (q : ¬ v 1 = 0) : ok_X5_reason σ ∧ ∃ τ, f_X5_reason σ = (zI (sR v (fL v (aAng v)) (fD v (aAng v))), τ) ∧ IS N τ v n hs ∧ sm σ τ := by
  have hv := h.2.1
  have hC := h.1
  have v1 := hv.2.1
  have e1 : (zI (v 1) = 0) ↔ v 1 = 0 := zq0 (by unfold zB; omega)
  have ba := aAng_b v
  have a1 := ang_C hC.nc hv.1
  have s1 := se_C hC.nc hv ba
  obtain ⟨w, hw⟩ : ∃ w : Sg, w = f_X1_search (f_X3_angle σ) σ := ⟨_, rfl⟩
  obtain ⟨w0, w1, w2, w3, wf⟩ := s1.2 w (by rw [hw, a1.2])
  have J := judge_C (wf.nc hC.nc) hv hN w1 (fL_b _ _) w2 (fD_b _ _)
  obtain ⟨jf, j0, -⟩ := J.2 _ rfl
  have hm : sm σ (f_X4_judge w) := fun c a b => by rw [jf c b, wf.1 c a]
  refine ⟨⟨fun _ => trivial, fun _ => ⟨a1.1, by rw [a1.2]; exact s1.1, by dsimp only; rw [← hw]; exact ⟨J.1, trivial⟩⟩⟩, f_X4_judge w, ?_, h.sm hm, hm⟩
  unfold f_X5_reason
  rw [hC.nc.s2, itn (fun c => q (e1.mp c))]
  dsimp only
  rw [← hw, j0]
end K2
/-! the law's leaves -/
theorem l_rest {a d : Int} {σ : Sg} (ha : -1000000000 ≤ a ∧ a ≤ 1000000000) (hd : 0 < d) (hd2 : d < 100000) : ok_L_rest (zI a) (zI d) σ ∧ f_L_rest (zI a) (zI d) σ = zI (a % d) := by
  have hn : ¬ zI d = 0 := fun c => by have := (zq0 (by unfold zB; omega)).mp c; omega
  refine ⟨⟨hn, hn, trivial⟩, ?_⟩
  have h3 : -d < a.tmod d := Int.lt_tmod_of_pos a hd
  have h4 : a.tmod d < d := Int.tmod_lt_of_pos a hd
  unfold f_L_rest
  rw [z_rem (by unfold zB; omega) hd (by omega), z_add, z_rem (by unfold zB; omega) hd (by omega)]
  congr 1
  rw [Int.tmod_eq_emod_of_nonneg (by omega)]
  have h5 := Int.tmod_add_mul_tdiv a d
  have e : a = a.tmod d + d * a.tdiv d := by omega
  conv => rhs; rw [e, Int.add_mul_emod_self_left]
  rw [Int.add_emod_right]
def nr (a d : Int) : Int := if d - a % d ≤ a % d then d - a % d else a % d
theorem nr_dist {a b d : Int} (hd : 0 < d) : nr (a - b) d = dist d a b := by
  rw [← dist_off hd]
  unfold nr
  split <;> split <;> omega
theorem l_near {a d : Int} {σ : Sg} (ha : -1000000000 ≤ a ∧ a ≤ 1000000000) (hd : 0 < d) (hd2 : d < 100000) : ok_L_near (zI a) (zI d) σ ∧ f_L_near (zI a) (zI d) σ = zI (nr a d) := by
  have r := l_rest (σ := σ) ha hd hd2
  have b1 := Int.emod_nonneg a (show d ≠ 0 by omega)
  have b2 := Int.emod_lt_of_pos a hd
  constructor
  · unfold ok_L_near
    exact ⟨r.1, ⟨fun _ => trivial, fun _ => trivial⟩⟩
  · unfold f_L_near nr
    rw [r.2, z_sub, it_iff (z_le (by unfold zB; omega) (by unfold zB; omega)), it_z]
theorem l_nearD {a b d : Int} {σ : Sg} (ha : -1000000000 ≤ a - b ∧ a - b ≤ 1000000000) (hd : 0 < d) (hd2 : d < 100000) : ok_L_near (zI (a - b)) (zI d) σ ∧ f_L_near (zI (a - b)) (zI d) σ = zI (dist d a b) := by
  rw [← nr_dist hd]
  exact l_near ha hd hd2
theorem l_period {t : Nat} {σ : Sg} (ht : t < 3) : ok_L_period (zI t) σ ∧ f_L_period (zI t) σ = zI (aLen t) := by
  match t, ht with
  | 0, _ => exact ⟨⟨by decide, trivial⟩, rfl⟩
  | 1, _ => exact ⟨⟨by decide, trivial⟩, rfl⟩
  | 2, _ => exact ⟨⟨by decide, trivial⟩, rfl⟩
theorem l_least {a b : Int} {σ : Sg} (ha : zB a) (hb : zB b) : ok_L_least (zI a) (zI b) σ ∧ f_L_least (zI a) (zI b) σ = zI (if b ≤ a then b else a) := by
  refine ⟨⟨fun _ => trivial, fun _ => trivial⟩, ?_⟩
  unfold f_L_least
  rw [it_iff (z_le hb ha), it_z]
theorem and_pos (p : Int32) : 0 ≤ (p &&& 2147483647).toInt := by
  have h : (p &&& 2147483647).toBitVec = p.toBitVec &&& 2147483647#32 := rfl
  show 0 ≤ (p &&& 2147483647).toBitVec.toInt
  rw [h, BitVec.toInt_eq_toNat_of_msb (by rw [BitVec.msb_and, show (2147483647#32).msb = false from by decide, Bool.and_false])]
  exact Int.natCast_nonneg _
theorem l_low (p : Int32) {d : Int} {σ : Sg} (hd : 0 < d) (hd2 : d < 100000) : ok_L_low p (zI d) σ ∧ ∃ k : Int, 0 ≤ k ∧ k < d ∧ ∀ τ : Sg, f_L_low p (zI d) τ = zI k := by
  have hn : ¬ zI d = 0 := fun c => by have := (zq0 (by unfold zB; omega)).mp c; omega
  have h0 := and_pos p
  have hz := z_rng (p &&& 2147483647)
  refine ⟨⟨hn, trivial⟩, (p &&& 2147483647).toInt % d, Int.emod_nonneg _ (by omega), Int.emod_lt_of_pos _ hd, fun τ => ?_⟩
  unfold f_L_low
  rw [z_of (p &&& 2147483647), z_rem (z_int hz ▸ hz) hd (by omega), z_int hz, Int.tmod_eq_emod_of_nonneg h0]
