set_option linter.all false
/-! whole numbers as ints of the machine -/
def zI (z : Int) : Int32 := Int32.ofInt z
def zB (z : Int) : Prop := -2147483648 ≤ z ∧ z < 2147483648
theorem z_add (a b : Int) : zI a + zI b = zI (a + b) := (Int32.ofInt_add a b).symm
theorem z_sub (a b : Int) : zI a - zI b = zI (a - b) := (Int32.ofInt_sub a b).symm
theorem z_mul (a b : Int) : zI a * zI b = zI (a * b) := (Int32.ofInt_mul a b).symm
theorem z_neg (a : Int) : - zI a = zI (-a) := (Int32.ofInt_neg a).symm
theorem z_int {a : Int} (h : zB a) : (zI a).toInt = a := Int32.toInt_ofInt_of_le h.1 h.2
theorem z_of (x : Int32) : x = zI x.toInt := (Int32.ofInt_toInt x).symm
theorem z_rng (x : Int32) : zB x.toInt := ⟨x.le_toInt, x.toInt_lt⟩
theorem z_lt {a b : Int} (ha : zB a) (hb : zB b) : zI a < zI b ↔ a < b := by rw [Int32.lt_iff_toInt_lt, z_int ha, z_int hb]
theorem z_le {a b : Int} (ha : zB a) (hb : zB b) : zI a ≤ zI b ↔ a ≤ b := by rw [Int32.le_iff_toInt_le, z_int ha, z_int hb]
theorem z_eq {a b : Int} (ha : zB a) (hb : zB b) : zI a = zI b ↔ a = b := by rw [← Int32.toInt_inj, z_int ha, z_int hb]
theorem z_n (n : Nat) : (OfNat.ofNat n : Int32) = zI (OfNat.ofNat n : Int) := (Int32.ofInt_eq_ofNat (n := n)).symm
theorem z_on (n : Nat) : Int32.ofNat n = zI (n : Int) := (Int32.ofInt_eq_ofNat (n := n)).symm
theorem z_0 : (0 : Int32) = zI 0 := rfl
theorem z_m1 : (-1 : Int32) = zI (-1) := rfl
theorem z_nat {a : Int} (h : zB a) : (zI a).toNatClampNeg = a.toNat := Int32.toNatClampNeg_ofInt_of_le h.1 h.2
theorem z_div {a b : Int} (ha : zB a) (hb : 0 < b) (hb2 : b < 2147483648) : zI a / zI b = zI (a.tdiv b) := by
  rw [← Int32.toInt_inj, Int32.toInt_div_of_ne_right _ _ (fun e => by
    have h := congrArg Int32.toInt e
    rw [z_int ⟨by omega, hb2⟩] at h
    have h1 : (-1 : Int32).toInt = -1 := by decide
    omega), z_int ha, z_int (a := b) ⟨by omega, hb2⟩, z_int]
  unfold zB at ha ⊢
  have h1 := Int.natAbs_tdiv a b
  have h2 : a.natAbs / b.natAbs ≤ a.natAbs := Nat.div_le_self _ _
  have h3 : (a.tdiv b).natAbs ≤ a.natAbs := by rw [h1]; exact h2
  by_cases ha0 : 0 ≤ a
  · have h4 := Int.tdiv_nonneg ha0 (Int.le_of_lt hb)
    omega
  · have h4 := Int.tdiv_nonneg (a := -a) (by omega) (Int.le_of_lt hb)
    rw [Int.neg_tdiv] at h4
    omega
theorem z_divn {a b : Int} (h0 : 0 ≤ a) (ha : a < 2147483648) (hb : 0 < b) (hb2 : b < 2147483648) : zI a / zI b = zI (a / b) := by
  rw [z_div ⟨by omega, ha⟩ hb hb2, Int.tdiv_eq_ediv_of_nonneg h0]
theorem z_rem {a b : Int} (ha : zB a) (hb : 0 < b) (hb2 : b < 2147483648) : zI a - zI a / zI b * zI b = zI (a.tmod b) := by
  rw [z_div ha hb hb2, z_mul, z_sub]
  have h := Int.tmod_add_mul_tdiv a b
  rw [Int.mul_comm] at h
  congr 1
  omega
theorem z_tmod {a b : Int} (hb : 0 < b) : a % b = if 0 ≤ a.tmod b then a.tmod b else a.tmod b + b := by
  have h1 := Int.tmod_add_mul_tdiv a b
  have h2 : -b < a.tmod b := Int.lt_tmod_of_pos a hb
  have h3 : a.tmod b < b := Int.tmod_lt_of_pos a hb
  split
  · rename_i h0
    have e : a = a.tmod b + b * a.tdiv b := by omega
    conv => lhs; rw [e]
    rw [Int.add_mul_emod_self_left, Int.emod_eq_of_lt h0 h3]
  · rename_i h0
    have e : a = (a.tmod b + b) + b * (a.tdiv b - 1) := by rw [Int.mul_sub]; omega
    conv => lhs; rw [e]
    rw [Int.add_mul_emod_self_left, Int.emod_eq_of_lt (by omega) (by omega)]
theorem z_in {a : Int} {n : Nat} (h0 : 0 ≤ a) (h1 : a < n) (hn : n < 2147483648) : vp_in (zI a) n := by
  rw [vp_in_iff, z_int ⟨by omega, by omega⟩]
  exact ⟨h0, h1⟩
theorem z_nb {x : Int32} (h : x = 0 ∨ x = 1) : narrow .boolean (.int x) = .int x ∧ fits .boolean (.int x) = true := by
  rcases h with rfl | rfl <;> exact ⟨rfl, rfl⟩
theorem itp {α : Type} {c : Prop} {a b : α} (h : c) : o_ite c a b = a := o_itp h
theorem itn {α : Type} {c : Prop} {a b : α} (h : ¬ c) : o_ite c a b = b := o_itn h
theorem it_iff {α : Type} {c d : Prop} (h : c ↔ d) (a b : α) : o_ite c a b = o_ite d a b := by rw [propext h]
theorem it_z {c : Prop} [Decidable c] {a b : Int} : o_ite c (zI a) (zI b) = zI (if c then a else b) := by
  rw [o_itd]
  split <;> rfl
theorem ite_z {c : Prop} [Decidable c] {a b : Int} : (if c then zI a else zI b) = zI (if c then a else b) := by
  split <;> rfl

