set_option linter.all false
def sLo (t : Nat) : Int := if t = 3 then -31 else if t = 2 then 1 else 0
def sHi (t : Nat) : Int := if t = 0 then 40 else if t = 1 then 32 else if t = 2 then 4080 else 31
theorem sLo_C {t : Nat} {σ : Sg} (h : t < 4) : f_X5_at 42 (zI t) σ = zI (sLo t) := by
  rw [at_in (show t < o_len 42 from h) (by decide)]
  match t, h with
  | 0, _ => rfl
  | 1, _ => rfl
  | 2, _ => rfl
  | 3, _ => rfl
theorem sHi_C {t : Nat} {σ : Sg} (h : t < 4) : f_X5_at 43 (zI t) σ = zI (sHi t) := by
  rw [at_in (show t < o_len 43 from h) (by decide)]
  match t, h with
  | 0, _ => rfl
  | 1, _ => rfl
  | 2, _ => rfl
  | 3, _ => rfl
theorem sB (t : Nat) : -31 ≤ sLo t ∧ sLo t ≤ 1 ∧ 31 ≤ sHi t ∧ sHi t ≤ 4080 := by
  unfold sLo sHi
  split <;> split <;> (try split) <;> (try split) <;> omega
theorem shown_ok {p : Int32} {σ : Sg} : ok_X5_shownSetting p σ := ⟨at_ok (by decide), ⟨fun _ => trivial, fun _ => trivial⟩⟩

theorem zq0 {P : Int} (h : zB P) : (zI P = 0) ↔ P = 0 := by rw [z_0]; exact z_eq h (by unfold zB; omega)
theorem zq1 {P : Int} (h : zB P) : (zI P = 1) ↔ P = 1 := by rw [z_n]; exact z_eq h (by unfold zB; omega)
theorem zq2 {P : Int} (h : zB P) : (zI P = 2) ↔ P = 2 := by rw [z_n]; exact z_eq h (by unfold zB; omega)
theorem zq3 {P : Int} (h : zB P) : (zI P = 3) ↔ P = 3 := by rw [z_n]; exact z_eq h (by unfold zB; omega)
theorem zq4 {P : Int} (h : zB P) : (zI P = 4) ↔ P = 4 := by rw [z_n]; exact z_eq h (by unfold zB; omega)
theorem zq5 {P : Int} (h : zB P) : (zI P = 5) ↔ P = 5 := by rw [z_n]; exact z_eq h (by unfold zB; omega)
theorem zq6 {P : Int} (h : zB P) : (zI P = 6) ↔ P = 6 := by rw [z_n]; exact z_eq h (by unfold zB; omega)
theorem zq7 {P : Int} (h : zB P) : (zI P = 7) ↔ P = 7 := by rw [z_n]; exact z_eq h (by unfold zB; omega)
theorem zq8 {P : Int} (h : zB P) : (zI P = 8) ↔ P = 8 := by rw [z_n]; exact z_eq h (by unfold zB; omega)
theorem zq9 {P : Int} (h : zB P) : (zI P = 9) ↔ P = 9 := by rw [z_n]; exact z_eq h (by unfold zB; omega)
theorem zq10 {P : Int} (h : zB P) : (zI P = 10) ↔ P = 10 := by rw [z_n]; exact z_eq h (by unfold zB; omega)
theorem zq11 {P : Int} (h : zB P) : (zI P = 11) ↔ P = 11 := by rw [z_n]; exact z_eq h (by unfold zB; omega)
theorem zq12 {P : Int} (h : zB P) : (zI P = 12) ↔ P = 12 := by rw [z_n]; exact z_eq h (by unfold zB; omega)
theorem zq13 {P : Int} (h : zB P) : (zI P = 13) ↔ P = 13 := by rw [z_n]; exact z_eq h (by unfold zB; omega)
theorem zq14 {P : Int} (h : zB P) : (zI P = 14) ↔ P = 14 := by rw [z_n]; exact z_eq h (by unfold zB; omega)
theorem zq15 {P : Int} (h : zB P) : (zI P = 15) ↔ P = 15 := by rw [z_n]; exact z_eq h (by unfold zB; omega)
theorem zq16 {P : Int} (h : zB P) : (zI P = 16) ↔ P = 16 := by rw [z_n]; exact z_eq h (by unfold zB; omega)
theorem zq17 {P : Int} (h : zB P) : (zI P = 17) ↔ P = 17 := by rw [z_n]; exact z_eq h (by unfold zB; omega)
theorem zq18 {P : Int} (h : zB P) : (zI P = 18) ↔ P = 18 := by rw [z_n]; exact z_eq h (by unfold zB; omega)
theorem zq19 {P : Int} (h : zB P) : (zI P = 19) ↔ P = 19 := by rw [z_n]; exact z_eq h (by unfold zB; omega)
theorem zq20 {P : Int} (h : zB P) : (zI P = 20) ↔ P = 20 := by rw [z_n]; exact z_eq h (by unfold zB; omega)
theorem zq21 {P : Int} (h : zB P) : (zI P = 21) ↔ P = 21 := by rw [z_n]; exact z_eq h (by unfold zB; omega)
theorem zq22 {P : Int} (h : zB P) : (zI P = 22) ↔ P = 22 := by rw [z_n]; exact z_eq h (by unfold zB; omega)
theorem zq23 {P : Int} (h : zB P) : (zI P = 23) ↔ P = 23 := by rw [z_n]; exact z_eq h (by unfold zB; omega)
theorem shown_C {t : Nat} {σ : Sg} {v : Nat → Int} (h : NC σ v) (ht : t < 4) : f_X5_shownSetting (zI t) σ = zI (if t = 3 then v (7 + t) + 100 else v (7 + t) + 0) := by
  unfold f_X5_shownSetting
  rw [it_iff (zq3 (by unfold zB; omega)), at_in (show t < o_len 2 from ht) (by decide)]
  show o_ite _ (σ 2 t + 100) (σ 2 t) = _
  rw [h.set ht]
  by_cases q : t = 3
  · rw [itp (by omega), if_pos q]
    exact z_add _ 100
  · rw [itn (by omega), if_neg q, Int.add_zero]
def cn (v : Nat → Int) : Nat → Nat → Int
  | _, 0 => 0
  | i, m + 1 => (if v (38 + i) = 0 then 0 else 1) + cn v (i + 1) m
theorem cn_C {σ : Sg} {v : Nat → Int} {N : Int} (h : NC σ v) (hv : VS N v) : ∀ (n i : Nat) (a : Int), i ≤ 24 → 24 - i < n → ok_X3_correctionsInUse_4 n (zI a) (zI i) σ ∧ f_X3_correctionsInUse_4 n (zI a) (zI i) σ = zI (a + cn v i (24 - i)) := by
  intro n
  induction n with
  | zero => intro i a h1 h2; omega
  | succ n ih =>
    intro i a h1 h2
    have e1 : ((24 : Int32) ≤ zI (i : Int)) ↔ (24 : Int) ≤ i := by rw [z_n]; exact z_le (by unfold zB; omega) (by unfold zB; omega)
    by_cases q : 24 ≤ i
    · refine ⟨⟨fun _ => trivial, fun c => absurd (e1.mpr (by omega)) c⟩, ?_⟩
      show o_ite _ _ _ = _
      rw [itp (e1.mpr (by omega)), show 24 - i = 0 by omega]
      show _ = zI (a + 0)
      rw [Int.add_zero]
    · have b := hv.2.2.2.2.2.2.2.2.2.2.2.2 (38 + i) (by omega) (by omega)
      have ea : f_X5_at 5 (zI (i : Int)) σ = zI (v (38 + i)) := by
        rw [at_in (show i < o_len 5 by show _ < 24; omega) (by decide)]
        exact h.cor (by omega)
      have e2 : (zI (v (38 + i)) = 0) ↔ v (38 + i) = 0 := zq0 (by unfold zB; omega)
      have s0 := ih (i + 1) a (by omega) (by omega)
      have s1 := ih (i + 1) (a + 1) (by omega) (by omega)
      have z1 : zI a + 1 = zI (a + 1) := z_add a 1
      have ec : cn v i (24 - i) = (if v (38 + i) = 0 then 0 else 1) + cn v (i + 1) (24 - (i + 1)) := by
        rw [show 24 - i = (24 - (i + 1)) + 1 by omega]
        rfl
      constructor
      · refine ⟨fun c => absurd (e1.mp c) (by omega), fun _ => ⟨at_ok (by decide), ⟨fun _ => ?_, fun _ => ?_⟩⟩⟩
        · rw [z_s]; exact s0.1
        · rw [z_s, z1]; exact s1.1
      · show o_ite _ _ (o_ite _ _ _) = _
        rw [itn (fun c => absurd (e1.mp c) (by omega)), ea, it_iff e2, ec, z_s, z1, s0.2, s1.2]
        by_cases q2 : v (38 + i) = 0
        · rw [itp q2, if_pos q2, Int.zero_add]
        · rw [itn q2, if_neg q2, Int.add_assoc]
theorem cu_C {σ : Sg} {v : Nat → Int} {N : Int} (h : NC σ v) (hv : VS N v) : ok_X3_correctionsInUse σ ∧ f_X3_correctionsInUse σ = zI (cn v 0 24) := by
  have r := cn_C h hv oF 0 0 (by omega) (by rw [oF_eq]; omega)
  rw [Int.zero_add] at r
  exact r
theorem z_wrap (a : Int) : zI a = zI (a + 4294967296) := by
  unfold zI
  rw [← Int32.toInt_inj, Int32.toInt_ofInt, Int32.toInt_ofInt]
  exact (Int.add_bmod_right a 4294967296).symm
theorem out20 {P : Int} (hP : zB P) (σ : Sg) : (f_X5_isOutside (zI P - 20) 0 3 σ = 0) ↔ (20 ≤ P ∧ P ≤ 23) := by
  have e : zI P - 20 = zI (P - 20) := z_sub P 20
  rw [e]
  unfold zB at hP
  by_cases q : -2147483648 ≤ P - 20
  · have r : (f_X5_isOutside (zI (P - 20)) 0 3 σ = 0) ↔ (0 ≤ P - 20 ∧ P - 20 ≤ 3) := out_iff (b := 0) (c := 3) (by unfold zB; omega) (by unfold zB; omega) (by unfold zB; omega)
    rw [r]; omega
  · rw [z_wrap]
    have r : (f_X5_isOutside (zI (P - 20 + 4294967296)) 0 3 σ = 0) ↔ (0 ≤ P - 20 + 4294967296 ∧ P - 20 + 4294967296 ≤ 3) := out_iff (b := 0) (c := 3) (by unfold zB; omega) (by unfold zB; omega) (by unfold zB; omega)
    rw [r]; omega

noncomputable def cR (v : Nat → Int) (n L : Nat) (P : Int) : Int := if P = 0 then v 0 else if P = 1 then aAng v else if P = 2 then v 2 else if P = 3 then v 1 else if P = 4 then v 3 else if P = 5 then v 4 else if P = 6 then (if v 5 = -1 then -4 else v 5) else if P = 7 then v 6 else if P = 8 then aCo v else if P = 9 then cn v 0 24 else if P = 10 then (n : Int) else if P = 11 then (L : Int) else if P = 20 then v 7 else if P = 21 then v 8 else if P = 22 then v 9 else if P = 23 then v 10 + 100 else -1
theorem cnt_C {σ : Sg} {v : Nat → Int} {n : Nat} {hs : Nat → Nat → Int} {L : Nat} {tx : Nat → Int} {N P : Int} (hC : AC σ v n hs L tx) (hv : VS N v) (hP : zB P) : ok_X5_count (zI P) σ ∧ f_X5_count (zI P) σ = zI (cR v n L P) := by
  have v5 := hv.2.2.2.2.2.1
  have v1 := hv.2.1
  have e5 : (zI (v 5) = -1) ↔ v 5 = -1 := by rw [z_m1]; exact z_eq (by unfold zB; omega) (by unfold zB; omega)
  have hc := hC.nc
  constructor
  · refine ⟨fun _ => trivial, fun _ => ⟨fun _ => ⟨(ang_C hc hv.1).1, trivial⟩, fun _ => ⟨fun _ => trivial, fun _ => ⟨fun _ => ⟨⟨fun _ => trivial, fun _ => trivial⟩, trivial⟩, fun _ => ⟨fun _ => trivial, fun _ => ⟨fun _ => trivial, fun _ => ⟨fun _ => ⟨fun _ => trivial, fun _ => trivial⟩, fun _ => ⟨fun _ => trivial, fun _ => ⟨fun _ => ⟨(co_C hc hv).1, trivial⟩, fun _ => ⟨fun _ => ⟨(cu_C hc hv).1, trivial⟩, fun _ => ⟨fun _ => trivial, fun _ => ⟨fun _ => trivial, fun _ => ⟨⟨out_ok, ⟨fun _ => ⟨shown_ok, trivial⟩, fun _ => trivial⟩⟩, trivial⟩⟩⟩⟩⟩⟩⟩⟩⟩⟩⟩⟩⟩
  · unfold f_X5_count
    rw [it_iff (zq0 hP), it_iff (zq1 hP), it_iff (zq2 hP), it_iff (zq3 hP), it_iff (zq4 hP), it_iff (zq5 hP), it_iff (zq6 hP), it_iff (zq7 hP), it_iff (zq8 hP), it_iff (zq9 hP), it_iff (zq10 hP), it_iff (zq11 hP)]
    unfold cR
    by_cases c0 : P = 0
    · rw [itp c0, if_pos c0]
      exact hc.s0
    rw [itn c0, if_neg c0]
    by_cases c1 : P = 1
    · rw [itp c1, if_pos c1]
      exact (ang_C hc hv.1).2
    rw [itn c1, if_neg c1]
    by_cases c2 : P = 2
    · rw [itp c2, if_pos c2]
      exact hc.s1
    rw [itn c2, if_neg c2]
    by_cases c3 : P = 3
    · rw [itp c3, if_pos c3]
      unfold f_X5_toNumber
      rw [hc.s2, it_iff (zq0 (by unfold zB; omega))]
      rcases v1 with e | e
      · rw [itp e, e]; rfl
      · rw [itn (by omega), e]; rfl
    rw [itn c3, if_neg c3]
    by_cases c4 : P = 4
    · rw [itp c4, if_pos c4]
      exact hc.s3
    rw [itn c4, if_neg c4]
    by_cases c5 : P = 5
    · rw [itp c5, if_pos c5]
      exact hc.s4
    rw [itn c5, if_neg c5]
    by_cases c6 : P = 6
    · rw [itp c6, if_pos c6]
      rw [hc.s5, it_iff e5]
      by_cases q5 : v 5 = -1
      · rw [itp q5, if_pos q5]; rfl
      · rw [itn q5, if_neg q5]
    rw [itn c6, if_neg c6]
    by_cases c7 : P = 7
    · rw [itp c7, if_pos c7]
      exact hc.s6
    rw [itn c7, if_neg c7]
    by_cases c8 : P = 8
    · rw [itp c8, if_pos c8]
      exact (co_C hc hv).2
    rw [itn c8, if_neg c8]
    by_cases c9 : P = 9
    · rw [itp c9, if_pos c9]
      exact (cu_C hc hv).2
    rw [itn c9, if_neg c9]
    by_cases c10 : P = 10
    · rw [itp c10, if_pos c10]
      exact hC.2.1
    rw [itn c10, if_neg c10]
    by_cases c11 : P = 11
    · rw [itp c11, if_pos c11]
      exact hC.2.2.2.1
    rw [itn c11, if_neg c11]
    unfold f_X5_settingCount
    rw [it_iff (out20 hP σ)]
    have es : ∀ t : Nat, zI (20 + (t : Int)) - 20 = zI (t : Int) := fun t => by
      have e := z_sub (20 + (t : Int)) 20
      rw [show (20 + (t : Int)) - 20 = t by omega] at e
      exact e
    by_cases d0 : P = 20
    · rw [itp (by omega), if_pos d0]
      have e := es 0
      have e3 := shown_C (t := 0) hc (by omega)
      rw [show P = 20 + ((0 : Nat) : Int) by omega, e, e3]
      rw [if_neg (by omega), Int.add_zero]
    rw [if_neg d0]
    by_cases d1 : P = 21
    · rw [itp (by omega), if_pos d1]
      have e := es 1
      have e3 := shown_C (t := 1) hc (by omega)
      rw [show P = 20 + ((1 : Nat) : Int) by omega, e, e3]
      rw [if_neg (by omega), Int.add_zero]
    rw [if_neg d1]
    by_cases d2 : P = 22
    · rw [itp (by omega), if_pos d2]
      have e := es 2
      have e3 := shown_C (t := 2) hc (by omega)
      rw [show P = 20 + ((2 : Nat) : Int) by omega, e, e3]
      rw [if_neg (by omega), Int.add_zero]
    rw [if_neg d2]
    by_cases d3 : P = 23
    · rw [itp (by omega), if_pos d3]
      have e := es 3
      have e3 := shown_C (t := 3) hc (by omega)
      rw [show P = 20 + ((3 : Nat) : Int) by omega, e, e3]
      rw [if_pos rfl]
    rw [if_neg d3]
    rw [itn (by omega)]
    rfl
