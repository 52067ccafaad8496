set_option linter.all false
/-! the leaves, in whole numbers -/
theorem at_ok {a : Nat} {p : Int32} {σ : Sg} (hb : o_len a < 2147483648) : ok_X5_at a p σ := by
  refine ⟨fun _ => trivial, fun h1 => ⟨fun _ => trivial, fun h2 => ⟨?_, trivial⟩⟩⟩
  rw [vp_in_iff]
  rw [Int32.lt_iff_toInt_lt] at h1
  rw [z_on, Int32.le_iff_toInt_le, z_int ⟨by omega, by omega⟩] at h2
  have h0 : (0 : Int32).toInt = 0 := by decide
  omega
theorem at_in {a i : Nat} {σ : Sg} (h : i < o_len a) (hb : o_len a < 2147483648) : f_X5_at a (zI i) σ = o_av σ a i := by
  unfold f_X5_at
  rw [z_on, z_0, itn, itn, z_nat ⟨by omega, by omega⟩]
  · rfl
  · rw [z_le ⟨by omega, by omega⟩ ⟨by omega, by omega⟩]; omega
  · rw [z_lt ⟨by omega, by omega⟩ ⟨by omega, by omega⟩]; omega
theorem at_out {a : Nat} {p : Int} {σ : Sg} (hp : zB p) (h : (o_len a : Int) ≤ p) (hb : o_len a < 2147483648) : f_X5_at a (zI p) σ = 0 := by
  unfold f_X5_at
  rw [z_on, z_0, itn, itp]
  · rw [z_le ⟨by omega, by omega⟩ hp]; omega
  · rw [z_lt hp ⟨by omega, by omega⟩]; omega
theorem put_ok {a : Nat} {p q : Int32} {σ : Sg} (hb : o_len a < 2147483648) : ok_X5_put a p q σ := by
  refine ⟨fun _ => trivial, fun h1 => ⟨fun _ => trivial, fun h2 => ⟨?_, trivial⟩⟩⟩
  rw [vp_in_iff]
  rw [Int32.lt_iff_toInt_lt] at h1
  rw [z_on, Int32.le_iff_toInt_le, z_int ⟨by omega, by omega⟩] at h2
  have h0 : (0 : Int32).toInt = 0 := by decide
  omega
theorem put_in {a i : Nat} {x : Int32} {σ : Sg} (h : i < o_len a) (hb : o_len a < 2147483648) : f_X5_put a (zI i) x σ = pu σ a i x := by
  unfold f_X5_put
  rw [z_on, z_0, itn, itn, z_nat ⟨by omega, by omega⟩]
  · rfl
  · rw [z_le ⟨by omega, by omega⟩ ⟨by omega, by omega⟩]; omega
  · rw [z_lt ⟨by omega, by omega⟩ ⟨by omega, by omega⟩]; omega
theorem rem_ok {a d : Int32} {σ : Sg} : ok_X5_remainder a d σ := by
  refine ⟨fun h => ⟨fun e => ?_, ⟨fun _ => trivial, fun _ => trivial⟩⟩, fun _ => trivial⟩
  rw [e] at h
  exact absurd h (by decide)
theorem rem_C {a d : Int} {σ : Sg} (ha : zB a) (hd : 0 < d) (hd2 : d < 2147483648) : f_X5_remainder (zI a) (zI d) σ = zI (a % d) := by
  unfold f_X5_remainder
  have h3 : -d < a.tmod d := Int.lt_tmod_of_pos a hd
  have h4 : a.tmod d < d := Int.tmod_lt_of_pos a hd
  rw [z_rem ha hd hd2, z_add, z_0, itp ((z_lt ⟨by omega, by omega⟩ ⟨by omega, by omega⟩).mpr hd), it_iff (z_le ⟨by omega, by omega⟩ ⟨by omega, by omega⟩), it_z, z_tmod hd]
theorem out_ok {a b c : Int32} {σ : Sg} : ok_X5_isOutside a b c σ := ⟨fun _ => trivial, fun _ => ⟨fun _ => trivial, fun _ => trivial⟩⟩
theorem out_C {a b c : Int} {σ : Sg} (ha : zB a) (hb : zB b) (hc : zB c) : f_X5_isOutside (zI a) (zI b) (zI c) σ = zI (if a < b then 1 else if a ≤ c then 0 else 1) := by
  unfold f_X5_isOutside
  rw [it_iff (z_lt ha hb), it_iff (z_le ha hc), z_n, z_n, it_z, it_z]
theorem out_0 {a b c : Int} {σ : Sg} (hb : zB b) (hc : zB c) (h : b ≤ a ∧ a ≤ c) : f_X5_isOutside (zI a) (zI b) (zI c) σ = 0 := by
  unfold zB at hb hc
  rw [out_C ⟨by omega, by omega⟩ hb hc, if_neg (by omega), if_pos (by omega)]
  rfl
def dist (L a b : Int) : Int := if (b - a) % L < (a - b) % L then (b - a) % L else (a - b) % L
theorem dist_b {L a b : Int} (hL : 0 < L) : 0 ≤ dist L a b ∧ dist L a b < L := by
  unfold dist
  have h1 := Int.emod_nonneg (b - a) (show L ≠ 0 by omega)
  have h2 := Int.emod_lt_of_pos (b - a) hL
  have h3 := Int.emod_nonneg (a - b) (show L ≠ 0 by omega)
  have h4 := Int.emod_lt_of_pos (a - b) hL
  split <;> omega
theorem mod_neg {L a b : Int} (hL : 0 < L) : (b - a) % L = if (a - b) % L = 0 then 0 else L - (a - b) % L := by
  have h3 := Int.emod_nonneg (a - b) (show L ≠ 0 by omega)
  have h4 := Int.emod_lt_of_pos (a - b) hL
  have h5 := Int.emod_add_mul_ediv (a - b) L
  split
  · rename_i h
    have e : b - a = 0 + L * (- ((a - b) / L)) := by rw [Int.mul_neg]; omega
    rw [e, Int.add_mul_emod_self_left]
    exact Int.zero_emod L
  · have e : b - a = (L - (a - b) % L) + L * (- ((a - b) / L) - 1) := by rw [Int.mul_sub, Int.mul_neg]; omega
    rw [e, Int.add_mul_emod_self_left, Int.emod_eq_of_lt (by omega) (by omega)]
theorem dist_off {L a b : Int} (hL : 0 < L) : (if (a - b) % L ≤ L - (a - b) % L then (a - b) % L else L - (a - b) % L) = dist L a b := by
  unfold dist
  rw [mod_neg (a := a) (b := b) hL]
  have h3 := Int.emod_nonneg (a - b) (show L ≠ 0 by omega)
  split <;> split <;> (try split) <;> omega
theorem dis_ok {a b d : Int32} {σ : Sg} : ok_X5_distance a b d σ := ⟨rem_ok, rem_ok, trivial⟩
theorem dis_C {L a b : Int} {σ : Sg} (h1 : zB (a - b)) (h2 : zB (b - a)) (hL : 0 < L) (hL2 : L < 2147483648) : f_X5_distance (zI a) (zI b) (zI L) σ = zI (dist L a b) := by
  unfold f_X5_distance dist
  have a1 := Int.emod_nonneg (b - a) (show L ≠ 0 by omega)
  have a2 := Int.emod_lt_of_pos (b - a) hL
  have a3 := Int.emod_nonneg (a - b) (show L ≠ 0 by omega)
  have a4 := Int.emod_lt_of_pos (a - b) hL
  rw [z_sub, z_sub, rem_C h1 hL hL2, rem_C h2 hL hL2]
  have e : (zI ((b - a) % L) < zI ((a - b) % L)) ↔ (b - a) % L < (a - b) % L := z_lt ⟨by omega, by omega⟩ ⟨by omega, by omega⟩
  by_cases q : (b - a) % L < (a - b) % L
  · rw [if_pos q, if_pos (e.mpr q)]
  · rw [if_neg q, if_neg (fun z => q (e.mp z))]
def aLen (t : Nat) : Int := if t = 0 then 272 else if t = 1 then 255 else 240
theorem aLen_b (t : Nat) : 240 ≤ aLen t ∧ aLen t ≤ 272 := by unfold aLen; split <;> (try split) <;> omega
theorem len_C {t : Nat} {σ : Sg} (h : t < 3) : f_X5_at 41 (zI t) σ = zI (aLen t) := by
  rw [at_in (show t < o_len 41 from h) (by decide)]
  match t, h with
  | 0, _ => rfl
  | 1, _ => rfl
  | 2, _ => rfl
theorem len_nz (t : Nat) : ¬ zI (aLen t) = 0 := by
  have h := aLen_b t
  rw [z_0, z_eq ⟨by omega, by omega⟩ ⟨by omega, by omega⟩]
  omega

