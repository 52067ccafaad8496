set_option linter.all false
def sLo (t : Nat) : Int := if t = 3 then -31 else if t = 2 then 1 else 0
def sHi (t : Nat) : Int := if t = 0 then 40 else if t = 1 then 32 else if t = 2 then 4080 else 31
theorem sLo_C {t : Nat} {σ : Sg} (h : t < 4) : f_X5_at 42 (zI t) σ = zI (sLo t) := by
  rw [at_in (show t < o_len 42 from h) (by decide)]
  match t, h with
  | 0, _ => rfl
  | 1, _ => rfl
  | 2, _ => rfl
  | 3, _ => rfl
theorem sHi_C {t : Nat} {σ : Sg} (h : t < 4) : f_X5_at 43 (zI t) σ = zI (sHi t) := by
  rw [at_in (show t < o_len 43 from h) (by decide)]
  match t, h with
  | 0, _ => rfl
  | 1, _ => rfl
  | 2, _ => rfl
  | 3, _ => rfl
theorem sB (t : Nat) : -31 ≤ sLo t ∧ sLo t ≤ 1 ∧ 31 ≤ sHi t ∧ sHi t ≤ 4080 := by
  unfold sLo sHi
  split <;> split <;> (try split) <;> (try split) <;> omega
theorem set_M {t : Nat} {P : Int} {σ : Sg} (h : t < 4) (hP : zB P) : (f_X6_isSetting (zI t) (zI P) σ = 0) ↔ ¬ (sLo t ≤ P ∧ P ≤ sHi t) := by
  unfold f_X6_isSetting
  match t, h with
  | 0, _ => rw [itp (by decide)]; exact in_iff (b := 0) (c := 40) hP (by unfold zB; omega) (by unfold zB; omega)
  | 1, _ => rw [itn (by decide), itp (by decide)]; exact in_iff (b := 0) (c := 32) hP (by unfold zB; omega) (by unfold zB; omega)
  | 2, _ => rw [itn (by decide), itn (by decide), itp (by decide)]; exact in_iff (b := 1) (c := 4080) hP (by unfold zB; omega) (by unfold zB; omega)
  | 3, _ => rw [itn (by decide), itn (by decide), itn (by decide), itp (by decide), zm31]; exact in_iff (b := -31) (c := 31) hP (by unfold zB; omega) (by unfold zB; omega)
theorem set_okM {p q : Int32} {σ : Sg} : ok_X6_isSetting p q σ := ⟨fun _ => ⟨in_ok, (z_nb in_b).1, trivial⟩, fun _ => ⟨fun _ => ⟨in_ok, (z_nb in_b).1, trivial⟩, fun _ => ⟨fun _ => ⟨in_ok, (z_nb in_b).1, trivial⟩, fun _ => ⟨fun _ => ⟨in_ok, (z_nb in_b).1, trivial⟩, fun _ => trivial⟩⟩⟩⟩
theorem shown_ok {p : Int32} {σ : Sg} : ok_X5_shownSetting p σ := ⟨at_ok (by decide), ⟨fun _ => trivial, fun _ => trivial⟩⟩

theorem zq0 {P : Int} (h : zB P) : (zI P = 0) ↔ P = 0 := by rw [z_0]; exact z_eq h (by unfold zB; omega)
theorem zq1 {P : Int} (h : zB P) : (zI P = 1) ↔ P = 1 := by rw [z_n]; exact z_eq h (by unfold zB; omega)
theorem zq2 {P : Int} (h : zB P) : (zI P = 2) ↔ P = 2 := by rw [z_n]; exact z_eq h (by unfold zB; omega)
theorem zq3 {P : Int} (h : zB P) : (zI P = 3) ↔ P = 3 := by rw [z_n]; exact z_eq h (by unfold zB; omega)
theorem zq4 {P : Int} (h : zB P) : (zI P = 4) ↔ P = 4 := by rw [z_n]; exact z_eq h (by unfold zB; omega)
theorem zq5 {P : Int} (h : zB P) : (zI P = 5) ↔ P = 5 := by rw [z_n]; exact z_eq h (by unfold zB; omega)
theorem zq6 {P : Int} (h : zB P) : (zI P = 6) ↔ P = 6 := by rw [z_n]; exact z_eq h (by unfold zB; omega)
theorem zq7 {P : Int} (h : zB P) : (zI P = 7) ↔ P = 7 := by rw [z_n]; exact z_eq h (by unfold zB; omega)
theorem zq8 {P : Int} (h : zB P) : (zI P = 8) ↔ P = 8 := by rw [z_n]; exact z_eq h (by unfold zB; omega)
theorem zq9 {P : Int} (h : zB P) : (zI P = 9) ↔ P = 9 := by rw [z_n]; exact z_eq h (by unfold zB; omega)
theorem zq10 {P : Int} (h : zB P) : (zI P = 10) ↔ P = 10 := by rw [z_n]; exact z_eq h (by unfold zB; omega)
theorem zq11 {P : Int} (h : zB P) : (zI P = 11) ↔ P = 11 := by rw [z_n]; exact z_eq h (by unfold zB; omega)
theorem zq12 {P : Int} (h : zB P) : (zI P = 12) ↔ P = 12 := by rw [z_n]; exact z_eq h (by unfold zB; omega)
theorem zq13 {P : Int} (h : zB P) : (zI P = 13) ↔ P = 13 := by rw [z_n]; exact z_eq h (by unfold zB; omega)
theorem zq14 {P : Int} (h : zB P) : (zI P = 14) ↔ P = 14 := by rw [z_n]; exact z_eq h (by unfold zB; omega)
theorem zq15 {P : Int} (h : zB P) : (zI P = 15) ↔ P = 15 := by rw [z_n]; exact z_eq h (by unfold zB; omega)
theorem zq16 {P : Int} (h : zB P) : (zI P = 16) ↔ P = 16 := by rw [z_n]; exact z_eq h (by unfold zB; omega)
theorem zq17 {P : Int} (h : zB P) : (zI P = 17) ↔ P = 17 := by rw [z_n]; exact z_eq h (by unfold zB; omega)
theorem zq18 {P : Int} (h : zB P) : (zI P = 18) ↔ P = 18 := by rw [z_n]; exact z_eq h (by unfold zB; omega)
theorem zq19 {P : Int} (h : zB P) : (zI P = 19) ↔ P = 19 := by rw [z_n]; exact z_eq h (by unfold zB; omega)
theorem zq20 {P : Int} (h : zB P) : (zI P = 20) ↔ P = 20 := by rw [z_n]; exact z_eq h (by unfold zB; omega)
theorem zq21 {P : Int} (h : zB P) : (zI P = 21) ↔ P = 21 := by rw [z_n]; exact z_eq h (by unfold zB; omega)
theorem zq22 {P : Int} (h : zB P) : (zI P = 22) ↔ P = 22 := by rw [z_n]; exact z_eq h (by unfold zB; omega)
theorem zq23 {P : Int} (h : zB P) : (zI P = 23) ↔ P = 23 := by rw [z_n]; exact z_eq h (by unfold zB; omega)
theorem shown_C {t : Nat} {σ : Sg} {v : Nat → Int} (h : NC σ v) (ht : t < 4) : f_X5_shownSetting (zI t) σ = zI (if t = 3 then v (7 + t) + 100 else v (7 + t) + 0) := by
  unfold f_X5_shownSetting
  rw [it_iff (zq3 (by unfold zB; omega)), at_in (show t < o_len 2 from ht) (by decide)]
  show o_ite _ (σ 2 t + 100) (σ 2 t) = _
  rw [h.set ht]
  by_cases q : t = 3
  · rw [itp (by omega), if_pos q]
    exact z_add _ 100
  · rw [itn (by omega), if_neg q, Int.add_zero]
theorem op_setting (p1 p2 : Int32) (N : Int) : Op (ok_X5_set p1 p2) (f_X5_set p1 p2) (ok_X6_set p1 p2) (f_X6_set p1 p2) N := by
  obtain ⟨P1, hP1, rfl⟩ := zarg p1
  obtain ⟨P2, hP2, rfl⟩ := zarg p2
  refine Op.of fun σ v n hs L tx hC hv hh hn hL hT => ?_
  have eC : ∀ s : Sg, (f_X5_isOutside (zI P1) 0 3 s = 0) ↔ (0 ≤ P1 ∧ P1 ≤ 3) := fun s => out_iff (b := 0) (c := 3) hP1 (by unfold zB; omega) (by unfold zB; omega)
  by_cases q1 : 0 ≤ P1 ∧ P1 ≤ 3
  · obtain ⟨t, rfl⟩ := Int.eq_ofNat_of_zero_le q1.1
    have ht : t < 4 := by omega
    have bs := sB t
    have eD : ∀ s : Sg, (f_X5_isOutside (zI P2) (f_X5_at 42 (zI t) s) (f_X5_at 43 (zI t) s) s = 0) ↔ (sLo t ≤ P2 ∧ P2 ≤ sHi t) := fun s => by rw [sLo_C ht, sHi_C ht]; exact out_iff hP2 (by unfold zB; omega) (by unfold zB; omega)
    have eM := fun s : Sg => set_M (σ := s) ht hP2
    by_cases q : sLo t ≤ P2 ∧ P2 ≤ sHi t
    · have hkeep := keep_C hC hn hv.2.1
      refine op_set hC hv hh hn hL hT (c := 2) (s := t) (k0 := 7 + t) (z := P2) (d := if t = 3 then v (7 + t) + 100 else v (7 + t) + 0) (by omega) ?_ ?_ ?_ ?_
      · rcases (by omega : t = 0 ∨ t = 1 ∨ t = 2 ∨ t = 3) with e | e | e | e
        · rw [e] at q ⊢
          have q3 : 0 ≤ P2 ∧ P2 ≤ 40 := q
          unfold VK; omega
        · rw [e] at q ⊢
          have q3 : 0 ≤ P2 ∧ P2 ≤ 32 := q
          unfold VK; omega
        · rw [e] at q ⊢
          have q3 : 1 ≤ P2 ∧ P2 ≤ 4080 := q
          unfold VK; omega
        · rw [e] at q ⊢
          have q3 : -31 ≤ P2 ∧ P2 ≤ 31 := q
          unfold VK; omega
      · exact ⟨out_ok, ⟨fun _ => ⟨at_ok (by decide), at_ok (by decide), out_ok, ⟨fun _ => ⟨hkeep.1, shown_ok, put_ok (by decide), trivial⟩, fun _ => trivial⟩⟩, fun _ => trivial⟩⟩
      · intro hk
        unfold f_X5_set
        rw [itp ((eC _).mpr q1)]
        dsimp only
        rw [itp ((eD _).mpr q), put_in (show t < o_len 2 from ht) (by decide), shown_C hk.nc ht]
        exact ⟨rfl, rfl⟩
      · intro τ hτ
        have ei : 7 + zI (t : Int) = zI ((7 + t : Nat) : Int) := z_add 7 t
        have hp := puts_M (k := 7 + t) (x := zI P2) hτ hn (by omega)
        refine ⟨⟨set_okM, ⟨fun _ => trivial, fun _ => ⟨by rw [ei]; exact hp.1, ⟨fun _ => trivial, fun _ => trivial⟩⟩⟩⟩, fun hk => ?_⟩
        unfold f_X6_set
        rw [itn (fun c => (eM _).mp c q), ei, hp.2]
        dsimp only
        rw [it_iff (zq3 hP1), hk.nm _ (by omega)]
        by_cases q3 : t = 3
        · rw [itp (by omega), if_pos q3]
          exact ⟨z_add _ 100, rfl⟩
        · rw [itn (by omega), if_neg q3]
          exact ⟨z_add _ 0, rfl⟩
    · refine op_same hC hv hh hn hL hT (-1) ⟨out_ok, ⟨fun _ => ⟨at_ok (by decide), at_ok (by decide), out_ok, ⟨fun c => absurd ((eD _).mp c) q, fun _ => trivial⟩⟩, fun _ => trivial⟩⟩ (q_same ?_) (fun τ hτ => m_same hτ ⟨set_okM, ⟨fun _ => trivial, fun c => absurd ((eM _).mpr q) c⟩⟩ ?_)
      · unfold f_X5_set
        rw [itp ((eC _).mpr q1)]
        dsimp only
        rw [itn (fun c => q ((eD _).mp c))]
      · unfold f_X6_set
        rw [itp ((eM _).mpr q)]
  · have em : ∀ s : Sg, f_X6_isSetting (zI P1) (zI P2) s = 0 := fun s => by
      unfold f_X6_isSetting
      rw [it_iff (zq0 hP1), it_iff (zq1 hP1), it_iff (zq2 hP1), it_iff (zq3 hP1), itn (by omega), itn (by omega), itn (by omega), itn (by omega)]
    refine op_same hC hv hh hn hL hT (-1) ⟨out_ok, ⟨fun c => absurd ((eC _).mp c) q1, fun _ => trivial⟩⟩ (q_same ?_) (fun τ hτ => m_same hτ ⟨set_okM, ⟨fun _ => trivial, fun c => absurd (em _) c⟩⟩ ?_)
    · unfold f_X5_set
      rw [itn (fun c => q1 ((eC _).mp c))]
    · unfold f_X6_set
      rw [itp (em _)]
/-- corrections in use -/
def cn (v : Nat → Int) : Nat → Nat → Int
  | _, 0 => 0
  | i, m + 1 => (if v (38 + i) = 0 then 0 else 1) + cn v (i + 1) m
theorem cn_C {σ : Sg} {v : Nat → Int} {N : Int} (h : NC σ v) (hv : VS N v) : ∀ (n i : Nat) (a : Int), i ≤ 24 → 24 - i < n → ok_X3_correctionsInUse_4 n (zI a) (zI i) σ ∧ f_X3_correctionsInUse_4 n (zI a) (zI i) σ = zI (a + cn v i (24 - i)) := by
  intro n
  induction n with
  | zero => intro i a h1 h2; omega
  | succ n ih =>
    intro i a h1 h2
    have e1 : ((24 : Int32) ≤ zI (i : Int)) ↔ (24 : Int) ≤ i := by rw [z_n]; exact z_le (by unfold zB; omega) (by unfold zB; omega)
    by_cases q : 24 ≤ i
    · refine ⟨⟨fun _ => trivial, fun c => absurd (e1.mpr (by omega)) c⟩, ?_⟩
      show o_ite _ _ _ = _
      rw [itp (e1.mpr (by omega)), show 24 - i = 0 by omega]
      show _ = zI (a + 0)
      rw [Int.add_zero]
    · have b := hv.2.2.2.2.2.2.2.2.2.2.2.2 (38 + i) (by omega) (by omega)
      have ea : f_X5_at 5 (zI (i : Int)) σ = zI (v (38 + i)) := by
        rw [at_in (show i < o_len 5 by show _ < 24; omega) (by decide)]
        exact h.cor (by omega)
      have e2 : (zI (v (38 + i)) = 0) ↔ v (38 + i) = 0 := zq0 (by unfold zB; omega)
      have s0 := ih (i + 1) a (by omega) (by omega)
      have s1 := ih (i + 1) (a + 1) (by omega) (by omega)
      have z1 : zI a + 1 = zI (a + 1) := z_add a 1
      have ec : cn v i (24 - i) = (if v (38 + i) = 0 then 0 else 1) + cn v (i + 1) (24 - (i + 1)) := by
        rw [show 24 - i = (24 - (i + 1)) + 1 by omega]
        rfl
      constructor
      · refine ⟨fun c => absurd (e1.mp c) (by omega), fun _ => ⟨at_ok (by decide), ⟨fun _ => ?_, fun _ => ?_⟩⟩⟩
        · rw [z_s]; exact s0.1
        · rw [z_s, z1]; exact s1.1
      · show o_ite _ _ (o_ite _ _ _) = _
        rw [itn (fun c => absurd (e1.mp c) (by omega)), ea, it_iff e2, ec, z_s, z1, s0.2, s1.2]
        by_cases q2 : v (38 + i) = 0
        · rw [itp q2, if_pos q2, Int.zero_add]
        · rw [itn q2, if_neg q2, Int.add_assoc]
theorem cn_M {σ : Sg} {v : Nat → Int} {N : Int} (h : NM σ v) (hv : VS N v) : ∀ (n i : Nat) (a : Int), i ≤ 24 → 24 - i < n → ok_X6_corrections_5 n (zI a) (zI ((38 + i : Nat) : Int)) σ ∧ f_X6_corrections_5 n (zI a) (zI ((38 + i : Nat) : Int)) σ = zI (a + cn v i (24 - i)) := by
  intro n
  induction n with
  | zero => intro i a h1 h2; omega
  | succ n ih =>
    intro i a h1 h2
    have e1 : ((62 : Int32) ≤ zI ((38 + i : Nat) : Int)) ↔ (62 : Int) ≤ ((38 + i : Nat) : Int) := by rw [z_n]; exact z_le (by unfold zB; omega) (by unfold zB; omega)
    by_cases q : 24 ≤ i
    · refine ⟨⟨fun _ => trivial, fun c => absurd (e1.mpr (by omega)) c⟩, ?_⟩
      show o_ite _ _ _ = _
      rw [itp (e1.mpr (by omega)), show 24 - i = 0 by omega]
      show _ = zI (a + 0)
      rw [Int.add_zero]
    · have b := hv.2.2.2.2.2.2.2.2.2.2.2.2 (38 + i) (by omega) (by omega)
      have e2 : (zI (v (38 + i)) = 0) ↔ v (38 + i) = 0 := zq0 (by unfold zB; omega)
      have s0 := ih (i + 1) a (by omega) (by omega)
      have s1 := ih (i + 1) (a + 1) (by omega) (by omega)
      have z1 : zI a + 1 = zI (a + 1) := z_add a 1
      have z0 : zI a + 0 = zI a := by rw [z_0, z_add, Int.add_zero]
      have ec : cn v i (24 - i) = (if v (38 + i) = 0 then 0 else 1) + cn v (i + 1) (24 - (i + 1)) := by
        rw [show 24 - i = (24 - (i + 1)) + 1 by omega]
        rfl
      constructor
      · refine ⟨fun c => absurd (e1.mp c) (by omega), fun _ => ⟨z_in (by omega) (by omega) (by omega), ⟨fun _ => ?_, fun _ => ?_⟩⟩⟩
        · rw [z_s, z0]; exact s0.1
        · rw [z_s, z1]; exact s1.1
      · show o_ite _ _ (o_ite _ _ _) = _
        rw [itn (fun c => absurd (e1.mp c) (by omega)), z_tn (by omega), h _ (by omega), it_iff e2, ec, z_s, z1, z0]
        have t0 := s0.2
        have t1 := s1.2
        rw [show 38 + (i + 1) = 38 + i + 1 by omega] at t0 t1
        rw [t0, t1]
        by_cases q2 : v (38 + i) = 0
        · rw [itp q2, if_pos q2, Int.zero_add]
        · rw [itn q2, if_neg q2, Int.add_assoc]
theorem cu_C {σ : Sg} {v : Nat → Int} {N : Int} (h : NC σ v) (hv : VS N v) : ok_X3_correctionsInUse σ ∧ f_X3_correctionsInUse σ = zI (cn v 0 24) := by
  have r := cn_C h hv oF 0 0 (by omega) (by rw [oF_eq]; omega)
  rw [Int.zero_add] at r
  exact r
theorem cu_M {σ : Sg} {v : Nat → Int} {N : Int} (h : NM σ v) (hv : VS N v) : ok_X6_corrections σ ∧ f_X6_corrections σ = zI (cn v 0 24) := by
  have r := cn_M h hv oF 0 0 (by omega) (by rw [oF_eq]; omega)
  rw [Int.zero_add] at r
  exact r
theorem z_wrap (a : Int) : zI a = zI (a + 4294967296) := by
  unfold zI
  rw [← Int32.toInt_inj, Int32.toInt_ofInt, Int32.toInt_ofInt]
  exact (Int.add_bmod_right a 4294967296).symm
theorem out20 {P : Int} (hP : zB P) (σ : Sg) : (f_X5_isOutside (zI P - 20) 0 3 σ = 0) ↔ (20 ≤ P ∧ P ≤ 23) := by
  have e : zI P - 20 = zI (P - 20) := z_sub P 20
  rw [e]
  unfold zB at hP
  by_cases q : -2147483648 ≤ P - 20
  · have r : (f_X5_isOutside (zI (P - 20)) 0 3 σ = 0) ↔ (0 ≤ P - 20 ∧ P - 20 ≤ 3) := out_iff (b := 0) (c := 3) (by unfold zB; omega) (by unfold zB; omega) (by unfold zB; omega)
    rw [r]; omega
  · rw [z_wrap]
    have r : (f_X5_isOutside (zI (P - 20 + 4294967296)) 0 3 σ = 0) ↔ (0 ≤ P - 20 + 4294967296 ∧ P - 20 + 4294967296 ≤ 3) := out_iff (b := 0) (c := 3) (by unfold zB; omega) (by unfold zB; omega) (by unfold zB; omega)
    rw [r]; omega

noncomputable def cR (v : Nat → Int) (n L : Nat) (P : Int) : Int := if P = 0 then v 0 else if P = 1 then aAng v else if P = 2 then v 2 else if P = 3 then v 1 else if P = 4 then v 3 else if P = 5 then v 4 else if P = 6 then (if v 5 = -1 then -4 else v 5) else if P = 7 then v 6 else if P = 8 then aCo v else if P = 9 then cn v 0 24 else if P = 10 then (n : Int) else if P = 11 then (L : Int) else if P = 20 then v 7 else if P = 21 then v 8 else if P = 22 then v 9 else if P = 23 then v 10 + 100 else -1
theorem cnt_C {σ : Sg} {v : Nat → Int} {n : Nat} {hs : Nat → Nat → Int} {L : Nat} {tx : Nat → Int} {N P : Int} (hC : AC σ v n hs L tx) (hv : VS N v) (hP : zB P) : ok_X5_count (zI P) σ ∧ f_X5_count (zI P) σ = zI (cR v n L P) := by
  have v5 := hv.2.2.2.2.2.1
  have v1 := hv.2.1
  have e5 : (zI (v 5) = -1) ↔ v 5 = -1 := by rw [z_m1]; exact z_eq (by unfold zB; omega) (by unfold zB; omega)
  have hc := hC.nc
  constructor
  · refine ⟨fun _ => trivial, fun _ => ⟨fun _ => ⟨(ang_C hc hv.1).1, trivial⟩, fun _ => ⟨fun _ => trivial, fun _ => ⟨fun _ => ⟨⟨fun _ => trivial, fun _ => trivial⟩, trivial⟩, fun _ => ⟨fun _ => trivial, fun _ => ⟨fun _ => trivial, fun _ => ⟨fun _ => ⟨fun _ => trivial, fun _ => trivial⟩, fun _ => ⟨fun _ => trivial, fun _ => ⟨fun _ => ⟨(co_C hc hv).1, trivial⟩, fun _ => ⟨fun _ => ⟨(cu_C hc hv).1, trivial⟩, fun _ => ⟨fun _ => trivial, fun _ => ⟨fun _ => trivial, fun _ => ⟨⟨out_ok, ⟨fun _ => ⟨shown_ok, trivial⟩, fun _ => trivial⟩⟩, trivial⟩⟩⟩⟩⟩⟩⟩⟩⟩⟩⟩⟩⟩
  · unfold f_X5_count
    rw [it_iff (zq0 hP), it_iff (zq1 hP), it_iff (zq2 hP), it_iff (zq3 hP), it_iff (zq4 hP), it_iff (zq5 hP), it_iff (zq6 hP), it_iff (zq7 hP), it_iff (zq8 hP), it_iff (zq9 hP), it_iff (zq10 hP), it_iff (zq11 hP)]
    unfold cR
    by_cases c0 : P = 0
    · rw [itp c0, if_pos c0]
      exact hc.s0
    rw [itn c0, if_neg c0]
    by_cases c1 : P = 1
    · rw [itp c1, if_pos c1]
      exact (ang_C hc hv.1).2
    rw [itn c1, if_neg c1]
    by_cases c2 : P = 2
    · rw [itp c2, if_pos c2]
      exact hc.s1
    rw [itn c2, if_neg c2]
    by_cases c3 : P = 3
    · rw [itp c3, if_pos c3]
      unfold f_X5_toNumber
      rw [hc.s2, it_iff (zq0 (by unfold zB; omega))]
      rcases v1 with e | e
      · rw [itp e, e]; rfl
      · rw [itn (by omega), e]; rfl
    rw [itn c3, if_neg c3]
    by_cases c4 : P = 4
    · rw [itp c4, if_pos c4]
      exact hc.s3
    rw [itn c4, if_neg c4]
    by_cases c5 : P = 5
    · rw [itp c5, if_pos c5]
      exact hc.s4
    rw [itn c5, if_neg c5]
    by_cases c6 : P = 6
    · rw [itp c6, if_pos c6]
      rw [hc.s5, it_iff e5]
      by_cases q5 : v 5 = -1
      · rw [itp q5, if_pos q5]; rfl
      · rw [itn q5, if_neg q5]
    rw [itn c6, if_neg c6]
    by_cases c7 : P = 7
    · rw [itp c7, if_pos c7]
      exact hc.s6
    rw [itn c7, if_neg c7]
    by_cases c8 : P = 8
    · rw [itp c8, if_pos c8]
      exact (co_C hc hv).2
    rw [itn c8, if_neg c8]
    by_cases c9 : P = 9
    · rw [itp c9, if_pos c9]
      exact (cu_C hc hv).2
    rw [itn c9, if_neg c9]
    by_cases c10 : P = 10
    · rw [itp c10, if_pos c10]
      exact hC.2.1
    rw [itn c10, if_neg c10]
    by_cases c11 : P = 11
    · rw [itp c11, if_pos c11]
      exact hC.2.2.2.1
    rw [itn c11, if_neg c11]
    unfold f_X5_settingCount
    rw [it_iff (out20 hP σ)]
    have es : ∀ t : Nat, zI (20 + (t : Int)) - 20 = zI (t : Int) := fun t => by
      have e := z_sub (20 + (t : Int)) 20
      rw [show (20 + (t : Int)) - 20 = t by omega] at e
      exact e
    by_cases d0 : P = 20
    · rw [itp (by omega), if_pos d0]
      have e := es 0
      have e3 := shown_C (t := 0) hc (by omega)
      rw [show P = 20 + ((0 : Nat) : Int) by omega, e, e3]
      rw [if_neg (by omega), Int.add_zero]
    rw [if_neg d0]
    by_cases d1 : P = 21
    · rw [itp (by omega), if_pos d1]
      have e := es 1
      have e3 := shown_C (t := 1) hc (by omega)
      rw [show P = 20 + ((1 : Nat) : Int) by omega, e, e3]
      rw [if_neg (by omega), Int.add_zero]
    rw [if_neg d1]
    by_cases d2 : P = 22
    · rw [itp (by omega), if_pos d2]
      have e := es 2
      have e3 := shown_C (t := 2) hc (by omega)
      rw [show P = 20 + ((2 : Nat) : Int) by omega, e, e3]
      rw [if_neg (by omega), Int.add_zero]
    rw [if_neg d2]
    by_cases d3 : P = 23
    · rw [itp (by omega), if_pos d3]
      have e := es 3
      have e3 := shown_C (t := 3) hc (by omega)
      rw [show P = 20 + ((3 : Nat) : Int) by omega, e, e3]
      rw [if_pos rfl]
    rw [if_neg d3]
    rw [itn (by omega)]
    rfl
theorem cnt_M {σ : Sg} {v : Nat → Int} {n : Nat} {hs : Nat → Nat → Int} {L : Nat} {tx : Nat → Int} {N P : Int} (hM : AM σ v n hs L tx) (hv : VS N v) (hP : zB P) : ok_X6_count (zI P) σ ∧ f_X6_count (zI P) σ = zI (cR v n L P) := by
  have v5 := hv.2.2.2.2.2.1
  have e5 : (zI (v 5) = -1) ↔ v 5 = -1 := by rw [z_m1]; exact z_eq (by unfold zB; omega) (by unfold zB; omega)
  have hm := hM.nm
  constructor
  · refine ⟨fun _ => trivial, fun _ => ⟨fun _ => ⟨trivial, trivial⟩, fun _ => ⟨fun _ => trivial, fun _ => ⟨fun _ => trivial, fun _ => ⟨fun _ => trivial, fun _ => ⟨fun _ => trivial, fun _ => ⟨fun _ => ⟨fun _ => trivial, fun _ => trivial⟩, fun _ => ⟨fun _ => trivial, fun _ => ⟨fun _ => ⟨(co_M hm hv).1, trivial⟩, fun _ => ⟨fun _ => ⟨(cu_M hm hv).1, trivial⟩, fun _ => ⟨fun _ => trivial, fun _ => ⟨fun _ => trivial, fun _ => ⟨fun _ => trivial, fun _ => ⟨fun _ => trivial, fun _ => ⟨fun _ => trivial, fun _ => ⟨fun _ => trivial, fun _ => ⟨fun _ => trivial, fun _ => ⟨fun _ => trivial, fun _ => ⟨fun _ => trivial, fun _ => ⟨fun _ => trivial, fun _ => ⟨fun c => ⟨by rw [c]; exact z_in (a := 7) (by omega) (by omega) (by omega), trivial⟩, fun _ => ⟨fun c => ⟨by rw [c]; exact z_in (a := 8) (by omega) (by omega) (by omega), trivial⟩, fun _ => ⟨fun c => ⟨by rw [c]; exact z_in (a := 9) (by omega) (by omega) (by omega), trivial⟩, fun _ => ⟨fun _ => trivial, fun _ => trivial⟩⟩⟩⟩⟩⟩⟩⟩⟩⟩⟩⟩⟩⟩⟩⟩⟩⟩⟩⟩⟩⟩⟩⟩
  · unfold f_X6_count
    rw [it_iff (zq0 hP), it_iff (zq1 hP), it_iff (zq2 hP), it_iff (zq3 hP), it_iff (zq4 hP), it_iff (zq5 hP), it_iff (zq6 hP), it_iff (zq7 hP), it_iff (zq8 hP), it_iff (zq9 hP), it_iff (zq10 hP), it_iff (zq11 hP), it_iff (zq12 hP), it_iff (zq13 hP), it_iff (zq14 hP), it_iff (zq15 hP), it_iff (zq16 hP), it_iff (zq17 hP), it_iff (zq18 hP), it_iff (zq19 hP), it_iff (zq20 hP), it_iff (zq21 hP), it_iff (zq22 hP), it_iff (zq23 hP)]
    unfold cR
    by_cases c0 : P = 0
    · rw [itp c0, if_pos c0]
      exact hm 0 (by omega)
    rw [itn c0, if_neg c0]
    by_cases c1 : P = 1
    · rw [itp c1, if_pos c1]
      exact ang_M hm hv.1
    rw [itn c1, if_neg c1]
    by_cases c2 : P = 2
    · rw [itp c2, if_pos c2]
      exact hm 2 (by omega)
    rw [itn c2, if_neg c2]
    by_cases c3 : P = 3
    · rw [itp c3, if_pos c3]
      exact hm 1 (by omega)
    rw [itn c3, if_neg c3]
    by_cases c4 : P = 4
    · rw [itp c4, if_pos c4]
      exact hm 3 (by omega)
    rw [itn c4, if_neg c4]
    by_cases c5 : P = 5
    · rw [itp c5, if_pos c5]
      exact hm 4 (by omega)
    rw [itn c5, if_neg c5]
    by_cases c6 : P = 6
    · rw [itp c6, if_pos c6]
      rw [hm 5 (by omega), it_iff e5]
      by_cases q5 : v 5 = -1
      · rw [itp q5, if_pos q5]; rfl
      · rw [itn q5, if_neg q5]
    rw [itn c6, if_neg c6]
    by_cases c7 : P = 7
    · rw [itp c7, if_pos c7]
      exact hm 6 (by omega)
    rw [itn c7, if_neg c7]
    by_cases c8 : P = 8
    · rw [itp c8, if_pos c8]
      exact (co_M hm hv).2
    rw [itn c8, if_neg c8]
    by_cases c9 : P = 9
    · rw [itp c9, if_pos c9]
      exact (cu_M hm hv).2
    rw [itn c9, if_neg c9]
    by_cases c10 : P = 10
    · rw [itp c10, if_pos c10]
      exact hM.2.1
    rw [itn c10, if_neg c10]
    by_cases c11 : P = 11
    · rw [itp c11, if_pos c11]
      exact hM.2.2.2.1
    rw [itn c11, if_neg c11]
    by_cases c12 : P = 12
    · rw [itp c12, if_neg (by omega), if_neg (by omega), if_neg (by omega), if_neg (by omega)]; rfl
    rw [itn c12]
    by_cases c13 : P = 13
    · rw [itp c13, if_neg (by omega), if_neg (by omega), if_neg (by omega), if_neg (by omega)]; rfl
    rw [itn c13]
    by_cases c14 : P = 14
    · rw [itp c14, if_neg (by omega), if_neg (by omega), if_neg (by omega), if_neg (by omega)]; rfl
    rw [itn c14]
    by_cases c15 : P = 15
    · rw [itp c15, if_neg (by omega), if_neg (by omega), if_neg (by omega), if_neg (by omega)]; rfl
    rw [itn c15]
    by_cases c16 : P = 16
    · rw [itp c16, if_neg (by omega), if_neg (by omega), if_neg (by omega), if_neg (by omega)]; rfl
    rw [itn c16]
    by_cases c17 : P = 17
    · rw [itp c17, if_neg (by omega), if_neg (by omega), if_neg (by omega), if_neg (by omega)]; rfl
    rw [itn c17]
    by_cases c18 : P = 18
    · rw [itp c18, if_neg (by omega), if_neg (by omega), if_neg (by omega), if_neg (by omega)]; rfl
    rw [itn c18]
    by_cases c19 : P = 19
    · rw [itp c19, if_neg (by omega), if_neg (by omega), if_neg (by omega), if_neg (by omega)]; rfl
    rw [itn c19]
    by_cases c20 : P = 20
    · rw [itp c20, if_pos c20, c20]; exact hm 7 (by omega)
    rw [itn c20, if_neg c20]
    by_cases c21 : P = 21
    · rw [itp c21, if_pos c21, c21]; exact hm 8 (by omega)
    rw [itn c21, if_neg c21]
    by_cases c22 : P = 22
    · rw [itp c22, if_pos c22, c22]; exact hm 9 (by omega)
    rw [itn c22, if_neg c22]
    by_cases c23 : P = 23
    · rw [itp c23, if_pos c23, hm 10 (by omega)]; exact z_add _ 100
    rw [itn c23, if_neg c23]
    rfl
theorem op_count (p1 : Int32) (N : Int) : Op (ok_X5_count p1) (fun σ => (f_X5_count p1 σ, σ)) (ok_X6_count p1) (fun σ => (f_X6_count p1 σ, σ)) N := by
  obtain ⟨P, hP, rfl⟩ := zarg p1
  refine Op.of fun σ v n hs L tx hC hv hh hn hL hT => ?_
  have a := cnt_C hC hv hP
  refine op_same hC hv hh hn hL hT (zI (cR v n L P)) a.1 (q_same ?_) (fun τ hτ => m_same hτ (cnt_M hτ hv hP).1 ?_)
  · rw [a.2]
  · rw [(cnt_M hτ hv hP).2]
