set_option linter.all false
/-! the deviation, and the angle that is found: both ways to look for it -/
def mx (a b : Int) : Int := if a < b then b else a
def dev (a x y z : Int) : Int := mx (dist 272 a x) (mx (dist 255 a y) (dist 240 a z))
theorem dev_b (a x y z : Int) : 0 ≤ dev a x y z ∧ dev a x y z ≤ 136 := by
  unfold dev mx dist
  split <;> split <;> (try split) <;> (try split) <;> (try split) <;> omega
theorem mod_s {L a : Int} (hL : 1 < L) : (a + 1) % L = if a % L + 1 = L then 0 else a % L + 1 := by
  have h3 := Int.emod_nonneg a (show L ≠ 0 by omega)
  have h4 := Int.emod_lt_of_pos a (show 0 < L by omega)
  have h5 := Int.emod_add_mul_ediv a L
  split
  · rename_i h
    have e : a + 1 = 0 + L * (a / L + 1) := by rw [Int.mul_add]; omega
    rw [e, Int.add_mul_emod_self_left]
    exact Int.zero_emod L
  · have e : a + 1 = (a % L + 1) + L * (a / L) := by omega
    rw [e, Int.add_mul_emod_self_left, Int.emod_eq_of_lt (by omega) (by omega)]
theorem dist_lip {L : Int} (a r : Int) (hL : 1 < L) : dist L a r - 1 ≤ dist L (a + 1) r := by
  have h3 := Int.emod_nonneg (a - r) (show L ≠ 0 by omega)
  have h4 := Int.emod_lt_of_pos (a - r) (show 0 < L by omega)
  rw [← dist_off (show 0 < L by omega), ← dist_off (show 0 < L by omega), show a + 1 - r = a - r + 1 by omega, mod_s hL]
  split <;> split <;> split <;> omega
theorem dev_lip (a x y z : Int) : dev a x y z - 1 ≤ dev (a + 1) x y z := by
  have h1 := dist_lip (L := 272) a x (by omega)
  have h2 := dist_lip (L := 255) a y (by omega)
  have h3 := dist_lip (L := 240) a z (by omega)
  unfold dev mx
  split <;> split <;> (try split) <;> (try split) <;> omega
theorem dev_lipk (a x y z : Int) : ∀ k : Nat, dev a x y z - k ≤ dev (a + k) x y z
  | 0 => by simp
  | k + 1 => by
    have h1 := dev_lipk a x y z k
    have h2 := dev_lip (a + k) x y z
    rw [show a + ((k + 1 : Nat) : Int) = a + k + 1 by omega]
    omega
def isNear (x y z a : Int) : Prop := 0 ≤ a ∧ a < 4080 ∧ (∀ b : Int, 0 ≤ b → b < 4080 → dev a x y z ≤ dev b x y z) ∧ ∀ b : Int, 0 ≤ b → b < a → dev a x y z < dev b x y z
theorem isNear_one {x y z a b : Int} (h1 : isNear x y z a) (h2 : isNear x y z b) : a = b := by
  obtain ⟨a1, a2, a3, a4⟩ := h1
  obtain ⟨b1, b2, b3, b4⟩ := h2
  rcases Int.lt_trichotomy a b with q | q | q
  · have h := b4 a a1 q
    have h' := a3 b b1 b2
    omega
  · exact q
  · have h := a4 b b1 q
    have h' := b3 a a1 a2
    omega
theorem near_ex (x y z : Int) : ∀ n : Nat, n < 4080 → ∃ a : Int, 0 ≤ a ∧ a ≤ n ∧ (∀ b : Int, 0 ≤ b → b ≤ n → dev a x y z ≤ dev b x y z) ∧ ∀ b : Int, 0 ≤ b → b < a → dev a x y z < dev b x y z
  | 0, _ => ⟨0, by omega, by omega, fun b h1 h2 => by rw [show b = 0 by omega]; exact Int.le_refl _, fun b h1 h2 => by omega⟩
  | n + 1, h => by
    obtain ⟨a, a1, a2, a3, a4⟩ := near_ex x y z n (by omega)
    by_cases q : dev ((n + 1 : Nat) : Int) x y z < dev a x y z
    · refine ⟨((n + 1 : Nat) : Int), by omega, by omega, fun b h1 h2 => ?_, fun b h1 h2 => ?_⟩
      · by_cases e : b = ((n + 1 : Nat) : Int)
        · rw [e]; omega
        · have := a3 b h1 (by omega); omega
      · have := a3 b h1 (by omega); omega
    · refine ⟨a, a1, by omega, fun b h1 h2 => ?_, a4⟩
      by_cases e : b = ((n + 1 : Nat) : Int)
      · rw [e]; omega
      · exact a3 b h1 (by omega)
theorem near_exists (x y z : Int) : ∃ a : Int, isNear x y z a := by
  obtain ⟨a, a1, a2, a3, a4⟩ := near_ex x y z 4079 (by omega)
  exact ⟨a, a1, by omega, fun b h1 h2 => a3 b h1 (by omega), a4⟩
noncomputable def near (x y z : Int) : Int := Classical.choose (near_exists x y z)
theorem near_is (x y z : Int) : isNear x y z (near x y z) := Classical.choose_spec (near_exists x y z)
theorem near_eq {x y z a : Int} (h : isNear x y z a) : a = near x y z := isNear_one h (near_is x y z)
theorem near_b (x y z : Int) : 0 ≤ near x y z ∧ near x y z < 4080 := ⟨(near_is x y z).1, (near_is x y z).2.1⟩
def rdg (x y z : Int) : Prop := 0 ≤ x ∧ x < 272 ∧ 0 ≤ y ∧ y < 255 ∧ 0 ≤ z ∧ z < 240
theorem dev_ok {a x y z : Int32} {σ : Sg} : ok_X5_deviation a x y z σ := ⟨at_ok (by decide), dis_ok, at_ok (by decide), dis_ok, at_ok (by decide), dis_ok, trivial⟩
theorem dev_C {a x y z : Int} {σ : Sg} (ha : 0 ≤ a ∧ a < 5000) (h : rdg x y z) : f_X5_deviation (zI a) (zI x) (zI y) (zI z) σ = zI (dev a x y z) := by
  obtain ⟨h1, h2, h3, h4, h5, h6⟩ := h
  unfold f_X5_deviation
  have l0 : f_X5_at 41 0 σ = zI 272 := len_C (t := 0) (by omega)
  have l1 : f_X5_at 41 1 σ = zI 255 := len_C (t := 1) (by omega)
  have l2 : f_X5_at 41 2 σ = zI 240 := len_C (t := 2) (by omega)
  rw [l0, l1, l2, dis_C ⟨by omega, by omega⟩ ⟨by omega, by omega⟩ (by omega) (by omega), dis_C ⟨by omega, by omega⟩ ⟨by omega, by omega⟩ (by omega) (by omega), dis_C ⟨by omega, by omega⟩ ⟨by omega, by omega⟩ (by omega) (by omega)]
  have b0 := dist_b (L := 272) (a := a) (b := x) (by omega)
  have b1 := dist_b (L := 255) (a := a) (b := y) (by omega)
  have b2 := dist_b (L := 240) (a := a) (b := z) (by omega)
  have e1 : (if zI (dist 255 a y) < zI (dist 240 a z) then zI (dist 240 a z) else zI (dist 255 a y)) = zI (mx (dist 255 a y) (dist 240 a z)) := by
    unfold mx
    rw [← ite_z, ← o_itd, ← o_itd]
    exact it_iff (z_lt ⟨by omega, by omega⟩ ⟨by omega, by omega⟩) _ _
  have b3 : 0 ≤ mx (dist 255 a y) (dist 240 a z) ∧ mx (dist 255 a y) (dist 240 a z) < 1000 := by unfold mx; split <;> omega
  rw [e1]
  show _ = zI (if dist 272 a x < mx (dist 255 a y) (dist 240 a z) then mx (dist 255 a y) (dist 240 a z) else dist 272 a x)
  rw [← ite_z, ← o_itd, ← o_itd]
  exact it_iff (z_lt ⟨by omega, by omega⟩ ⟨by omega, by omega⟩) _ _
theorem oF_eq : oF = 4999 + 1 := rfl
theorem z_max {a b : Int} (ha : zB a) (hb : zB b) : (if zI a < zI b then zI b else zI a) = zI (if a < b then b else a) := by
  rw [← ite_z, ← o_itd, ← o_itd]
  exact it_iff (z_lt ha hb) _ _
theorem nearLoop {x y z : Int} {σ : Sg} (h : rdg x y z) : ∀ (n : Nat) (i m : Int), 1 ≤ i → i ≤ 4300 → 0 ≤ m → m < i → m < 4080 → (∀ b : Int, 0 ≤ b → b < i → dev m x y z ≤ dev b x y z) → (∀ b : Int, 0 ≤ b → b < m → dev m x y z < dev b x y z) → 4080 - i < n → 0 < n →
    ok_X5_nearestAngle_14 n (zI x) (zI y) (zI z) (zI m) (zI (dev m x y z)) (zI i) σ ∧ f_X5_nearestAngle_14 n (zI x) (zI y) (zI z) (zI m) (zI (dev m x y z)) (zI i) σ = zI (near x y z) := by
  intro n
  induction n with
  | zero =>
    intro i m h1 h2 h3 h4 h4' h5 h6 h7 h8
    omega
  | succ n ih =>
    intro i m h1 h2 h3 h4 h4' h5 h6 h7 _
    have bm := dev_b m x y z
    have bi := dev_b i x y z
    have e1 : ((4080 : Int32) ≤ zI i) ↔ 4080 ≤ i := by rw [z_n]; exact z_le (by unfold zB; omega) (by unfold zB; omega)
    have e2 : (zI (dev m x y z) ≤ 0) ↔ dev m x y z ≤ 0 := by rw [z_0]; exact z_le (by unfold zB; omega) (by unfold zB; omega)
    have e3 : (zI (dev m x y z) ≤ zI (dev i x y z)) ↔ dev m x y z ≤ dev i x y z := z_le (by unfold zB; omega) (by unfold zB; omega)
    by_cases q1 : 4080 ≤ i
    · refine ⟨⟨fun _ => trivial, fun c => absurd (e1.mpr q1) c⟩, ?_⟩
      show o_ite _ _ _ = _
      rw [itp (e1.mpr q1), ← near_eq ⟨h3, h4', fun b b1 b2 => h5 b b1 (by omega), h6⟩]
    · by_cases q2 : dev m x y z ≤ 0
      · refine ⟨⟨fun c => trivial, fun c => ⟨fun _ => trivial, fun c => absurd (e2.mpr q2) c⟩⟩, ?_⟩
        show o_ite _ _ (o_ite _ _ _) = _
        rw [itn (fun c => q1 (e1.mp c)), itp (e2.mpr q2), ← near_eq ⟨h3, h4', fun b b1 b2 => ?_, h6⟩]
        have := dev_b b x y z
        omega
      · have ed : f_X5_deviation (zI i) (zI x) (zI y) (zI z) σ = zI (dev i x y z) := dev_C ⟨by omega, by omega⟩ h
        have step : ∀ (m' : Int), 0 ≤ m' → m' ≤ i → dev m' x y z ≤ dev i x y z → dev m' x y z ≤ dev m x y z → (∀ b : Int, 0 ≤ b → b < m' → dev m' x y z < dev b x y z) →
            ok_X5_nearestAngle_51 (ok_X5_nearestAngle_14 n) (zI x) (zI y) (zI z) (zI m') (zI (dev m' x y z)) (zI i) (zI (dev i x y z)) σ ∧ f_X5_nearestAngle_51 (f_X5_nearestAngle_14 n) (zI x) (zI y) (zI z) (zI m') (zI (dev m' x y z)) (zI i) (zI (dev i x y z)) σ = zI (near x y z) := by
          intro m' a1 a2 a3 a5 a4
          have bm' := dev_b m' x y z
          have ev : zI i + (if (1 : Int32) < ((zI (dev i x y z) - zI (dev m' x y z)) + 1) then ((zI (dev i x y z) - zI (dev m' x y z)) + 1) else 1) = zI (i + (if 1 < dev i x y z - dev m' x y z + 1 then dev i x y z - dev m' x y z + 1 else 1)) := by
            rw [z_sub, z_n, z_add, z_max (by unfold zB; omega) (by unfold zB; omega), z_add]
          have hlow : ∀ b : Int, 0 ≤ b → b < i + (if 1 < dev i x y z - dev m' x y z + 1 then dev i x y z - dev m' x y z + 1 else 1) → dev m' x y z ≤ dev b x y z := by
            intro b b1 b2
            by_cases q : b < i
            · have := h5 b b1 q
              omega
            · have hk := dev_lipk i x y z (b - i).toNat
              rw [show i + ((b - i).toNat : Int) = b by omega] at hk
              split at b2 <;> omega
          have hi : 1 ≤ (if 1 < dev i x y z - dev m' x y z + 1 then dev i x y z - dev m' x y z + 1 else 1) ∧ (if 1 < dev i x y z - dev m' x y z + 1 then dev i x y z - dev m' x y z + 1 else 1) ≤ 140 := by split <;> omega
          have r := ih (i + (if 1 < dev i x y z - dev m' x y z + 1 then dev i x y z - dev m' x y z + 1 else 1)) m' (by omega) (by omega) a1 (by omega) (by omega) hlow a4 (by omega) (by omega)
          constructor
          · show ok_X5_nearestAngle_14 n _ _ _ _ _ (zI i + _) σ
            rw [ev]
            exact r.1
          · show f_X5_nearestAngle_14 n _ _ _ _ _ (zI i + _) σ = _
            rw [ev]
            exact r.2
        by_cases q3 : dev m x y z ≤ dev i x y z
        · have r := step m h3 (by omega) q3 (Int.le_refl _) h6
          refine ⟨⟨fun c => trivial, fun c => ⟨fun _ => trivial, fun c => ⟨dev_ok, ?_⟩⟩⟩, ?_⟩
          · rw [ed]
            exact ⟨fun _ => r.1, fun c => absurd (e3.mpr q3) c⟩
          · show o_ite _ _ (o_ite _ _ (o_ite _ _ _)) = _
            rw [itn (fun c => q1 (e1.mp c)), itn (fun c => q2 (e2.mp c)), ed, itp (e3.mpr q3)]
            exact r.2
        · have r := step i (by omega) (Int.le_refl _) (Int.le_refl _) (by omega) (fun b b1 b2 => by have := h5 b b1 b2; omega)
          refine ⟨⟨fun c => trivial, fun c => ⟨fun _ => trivial, fun c => ⟨dev_ok, ?_⟩⟩⟩, ?_⟩
          · rw [ed]
            exact ⟨fun c => absurd (e3.mp c) q3, fun _ => r.1⟩
          · show o_ite _ _ (o_ite _ _ (o_ite _ _ _)) = _
            rw [itn (fun c => q1 (e1.mp c)), itn (fun c => q2 (e2.mp c)), ed, itn (fun c => q3 (e3.mp c))]
            exact r.2
theorem near_C {x y z : Int} {σ : Sg} (h : rdg x y z) : ok_X5_nearestAngle (zI x) (zI y) (zI z) σ ∧ f_X5_nearestAngle (zI x) (zI y) (zI z) σ = zI (near x y z) := by
  have ed : f_X5_deviation 0 (zI x) (zI y) (zI z) σ = zI (dev 0 x y z) := dev_C (a := 0) ⟨by omega, by omega⟩ h
  have r := nearLoop (σ := σ) h oF 1 0 (by omega) (by omega) (by omega) (by omega) (by omega) (fun b b1 b2 => by rw [show b = 0 by omega]; exact Int.le_refl _) (fun b b1 b2 => by omega) (by rw [oF_eq]; omega) (by rw [oF_eq]; omega)
  constructor
  · refine ⟨dev_ok, ?_⟩
    rw [ed]
    exact r.1
  · show f_X5_nearestAngle_14 oF _ _ _ _ _ _ _ = _
    rw [ed]
    exact r.2

