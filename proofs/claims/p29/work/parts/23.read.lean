set_option linter.all false
/-! readings, sectors, the coarse sensor, excesses: both sides -/
def NC (σ : Sg) (v : Nat → Int) : Prop := ∀ k, k < 62 → vw σ 1 k = zI (v k)
def VS (N : Int) (v : Nat → Int) : Prop := (0 ≤ v 0 ∧ v 0 < 65280) ∧ (v 1 = 0 ∨ v 1 = 1) ∧ (0 ≤ v 2 ∧ v 2 < 64) ∧ (0 ≤ v 3 ∧ v 3 ≤ 999) ∧ (0 ≤ v 4 ∧ v 4 ≤ 99) ∧ (-1 ≤ v 5 ∧ v 5 < 65280) ∧ (0 ≤ v 6 ∧ v 6 ≤ N) ∧ (0 ≤ v 7 ∧ v 7 ≤ 40) ∧ (0 ≤ v 8 ∧ v 8 ≤ 32) ∧ (1 ≤ v 9 ∧ v 9 ≤ 4080) ∧ (-31 ≤ v 10 ∧ v 10 ≤ 31) ∧ (∀ k, 11 ≤ k → k < 38 → -9 ≤ v k ∧ v k ≤ 9) ∧ (∀ k, 38 ≤ k → k < 62 → -20 ≤ v k ∧ v k ≤ 20)
theorem NC.same {σ σ' : Sg} {v : Nat → Int} (h : NC σ v) (he : ∀ c, 1 ≤ c → c < 6 → σ' c = σ c) : NC σ' v := fun k hk => by rw [vw_same (σ := σ) (fun c a b => he c a (by omega)), h k hk]
theorem NC.set {σ : Sg} {v : Nat → Int} (h : NC σ v) {k : Nat} (hk : k < 4) : σ 2 k = zI (v (7 + k)) := by
  rw [← h (7 + k) (by omega)]
  unfold vw
  rw [if_neg (by omega), if_pos (by omega)]
  congr 1
  omega
theorem NC.err {σ : Sg} {v : Nat → Int} (h : NC σ v) {k : Nat} (hk : k < 24) : σ 3 k = zI (v (11 + k)) := by
  rw [← h (11 + k) (by omega)]
  unfold vw
  rw [if_neg (by omega), if_neg (by omega), if_pos (by omega)]
  congr 1
  omega
theorem NC.noi {σ : Sg} {v : Nat → Int} (h : NC σ v) {k : Nat} (hk : k < 3) : σ 4 k = zI (v (35 + k)) := by
  rw [← h (35 + k) (by omega)]
  unfold vw
  rw [if_neg (by omega), if_neg (by omega), if_neg (by omega), if_pos (by omega)]
  congr 1
  omega
theorem NC.cor {σ : Sg} {v : Nat → Int} (h : NC σ v) {k : Nat} (hk : k < 24) : σ 5 k = zI (v (38 + k)) := by
  rw [← h (38 + k) (by omega)]
  unfold vw
  rw [if_neg (by omega), if_neg (by omega), if_neg (by omega), if_neg (by omega)]
  congr 1
  omega
theorem NC.s0 {σ : Sg} {v : Nat → Int} (h : NC σ v) : σ 1 0 = zI (v 0) := h 0 (by omega)
theorem NC.s1 {σ : Sg} {v : Nat → Int} (h : NC σ v) : σ 1 1 = zI (v 2) := h 2 (by omega)
theorem NC.s2 {σ : Sg} {v : Nat → Int} (h : NC σ v) : σ 1 2 = zI (v 1) := h 1 (by omega)
theorem NC.s3 {σ : Sg} {v : Nat → Int} (h : NC σ v) : σ 1 3 = zI (v 3) := h 3 (by omega)
theorem NC.s4 {σ : Sg} {v : Nat → Int} (h : NC σ v) : σ 1 4 = zI (v 4) := h 4 (by omega)
theorem NC.s5 {σ : Sg} {v : Nat → Int} (h : NC σ v) : σ 1 5 = zI (v 5) := h 5 (by omega)
theorem NC.s6 {σ : Sg} {v : Nat → Int} (h : NC σ v) : σ 1 6 = zI (v 6) := h 6 (by omega)
def sec (a : Int) : Nat := (a / 510).toNat
theorem sec_b {a : Int} (h : 0 ≤ a ∧ a < 4080) : sec a < 8 ∧ (sec a : Int) = a / 510 := by
  unfold sec
  omega
def aAng (v : Nat → Int) : Int := v 0 % 4080
theorem aAng_b (v : Nat → Int) : 0 ≤ aAng v ∧ aAng v < 4080 := by unfold aAng; omega
def aRd (v : Nat → Int) (t : Nat) (a : Int) : Int := (a + v (11 + (8 * t + sec a)) + v (35 + t)) % aLen t
theorem aRd_b (v : Nat → Int) (t : Nat) (a : Int) : 0 ≤ aRd v t a ∧ aRd v t a < aLen t := by
  have h := aLen_b t
  exact ⟨Int.emod_nonneg _ (by omega), Int.emod_lt_of_pos _ (by omega)⟩
def aCr (v : Nat → Int) (t : Nat) (r : Int) (s : Nat) : Int := (r - v (38 + (8 * t + s))) % aLen t
theorem aCr_b (v : Nat → Int) (t : Nat) (r : Int) (s : Nat) : 0 ≤ aCr v t r s ∧ aCr v t r s < aLen t := by
  have h := aLen_b t
  exact ⟨Int.emod_nonneg _ (by omega), Int.emod_lt_of_pos _ (by omega)⟩
def aCo (v : Nat → Int) : Int := (aAng v * 64 / 4080 + v 10) % 64
def aEx (v : Nat → Int) (t : Nat) : Int := if (aRd v t (aAng v) - aAng v) % aLen t ≤ aLen t / 2 then (aRd v t (aAng v) - aAng v) % aLen t else (aRd v t (aAng v) - aAng v) % aLen t - aLen t
theorem z_510 {a : Int} (h : 0 ≤ a ∧ a < 100000) : zI a / 510 = zI (a / 510) := z_divn h.1 (by omega) (b := 510) (by omega) (by omega)
theorem cell_C {t s : Nat} {σ : Sg} : f_X5_cell (zI t) (zI s) σ = zI ((8 * t + s : Nat) : Int) := by
  unfold f_X5_cell
  rw [show (8 : Int32) = zI 8 from rfl, z_mul, z_add]
  congr 1
  omega
theorem ang_C {σ : Sg} {v : Nat → Int} (h : NC σ v) (hv : 0 ≤ v 0 ∧ v 0 < 65280) : ok_X3_angle σ ∧ f_X3_angle σ = zI (aAng v) := by
  refine ⟨⟨rem_ok, trivial⟩, ?_⟩
  unfold f_X3_angle
  rw [h.s0]
  exact rem_C (d := 4080) (by unfold zB; omega) (by omega) (by omega)
theorem secI {a : Int} (h : 0 ≤ a ∧ a < 4080) : zI a / 510 = zI (sec a) := by rw [z_510 ⟨h.1, by omega⟩, (sec_b h).2]
theorem rd_C {σ : Sg} {v : Nat → Int} {t : Nat} {a : Int} {N : Int} (h : NC σ v) (hv : VS N v) (ht : t < 3) (ha : 0 ≤ a ∧ a < 4080) : ok_X3_readingAt (zI t) (zI a) σ ∧ f_X3_readingAt (zI t) (zI a) σ = zI (aRd v t a) := by
  have hs := sec_b ha
  have hl := aLen_b t
  refine ⟨⟨trivial, trivial, at_ok (by decide), at_ok (by decide), at_ok (by decide), rem_ok, trivial⟩, ?_⟩
  have b1 := hv.2.2.2.2.2.2.2.2.2.2.2.1 (11 + (8 * t + sec a)) (by omega) (by omega)
  have b2 := hv.2.2.2.2.2.2.2.2.2.2.2.1 (35 + t) (by omega) (by omega)
  show f_X5_remainder ((zI a + f_X5_at 3 (f_X5_cell (zI t) (zI a / 510) σ) σ) + f_X5_at 4 (zI t) σ) (f_X5_at 41 (zI t) σ) σ = _
  rw [secI ha, cell_C, at_in (show 8 * t + sec a < o_len 3 by show _ < 24; omega) (by decide), at_in (show t < o_len 4 from ht) (by decide), len_C ht]
  rw [show o_av σ 3 (8 * t + sec a) = σ 3 (8 * t + sec a) from rfl, show o_av σ 4 t = σ 4 t from rfl, h.err (by omega), h.noi ht, z_add, z_add]
  exact rem_C (by unfold zB; omega) (by omega) (by omega)
theorem z_tn {n : Nat} (h : n < 1000000) : (zI (n : Int)).toNatClampNeg = n := by
  rw [z_nat (by unfold zB; omega)]
  omega
theorem cr_C {σ : Sg} {v : Nat → Int} {t s : Nat} {r : Int} {N : Int} (h : NC σ v) (hv : VS N v) (ht : t < 3) (hs : s < 8) (hr : 0 ≤ r ∧ r < 1000) : ok_X3_corrected (zI t) (zI r) (zI s) σ ∧ f_X3_corrected (zI t) (zI r) (zI s) σ = zI (aCr v t r s) := by
  have hl := aLen_b t
  refine ⟨⟨trivial, at_ok (by decide), at_ok (by decide), rem_ok, trivial⟩, ?_⟩
  have b1 := hv.2.2.2.2.2.2.2.2.2.2.2.2 (38 + (8 * t + s)) (by omega) (by omega)
  show f_X5_remainder (zI r - f_X5_at 5 (f_X5_cell (zI t) (zI s) σ) σ) (f_X5_at 41 (zI t) σ) σ = _
  rw [cell_C, at_in (show 8 * t + s < o_len 5 by show _ < 24; omega) (by decide), len_C ht]
  rw [show o_av σ 5 (8 * t + s) = σ 5 (8 * t + s) from rfl, h.cor (by omega), z_sub]
  exact rem_C (by unfold zB; omega) (by omega) (by omega)
theorem co_64 {a : Int} (h : 0 ≤ a ∧ a < 4080) : zI a * 64 / 4080 = zI (a * 64 / 4080) := by
  rw [show (64 : Int32) = zI 64 from rfl, z_mul]
  exact z_divn (by omega) (by omega) (b := 4080) (by omega) (by omega)
theorem co_C {σ : Sg} {v : Nat → Int} {N : Int} (h : NC σ v) (hv : VS N v) : ok_X3_coarse σ ∧ f_X3_coarse σ = zI (aCo v) := by
  have ha := ang_C h hv.1
  have hb := aAng_b v
  have b1 := hv.2.2.2.2.2.2.2.2.2.2.1
  refine ⟨⟨ha.1, at_ok (by decide), rem_ok, trivial⟩, ?_⟩
  show f_X5_remainder (f_X3_angle σ * 64 / 4080 + f_X5_at 2 3 σ) 64 σ = _
  have e2 : f_X5_at 2 3 σ = zI (v 10) := by
    rw [show (3 : Int32) = zI ((3 : Nat) : Int) from rfl, at_in (show 3 < o_len 2 by decide) (by decide)]
    exact h.set (k := 3) (by omega)
  rw [ha.2, co_64 hb, e2, z_add]
  exact rem_C (d := 64) (by unfold zB; omega) (by omega) (by omega)
theorem ex_C {σ : Sg} {v : Nat → Int} {t : Nat} {N : Int} (h : NC σ v) (hv : VS N v) (ht : t < 3) : ok_X3_excess (zI t) σ ∧ f_X3_excess (zI t) σ = zI (aEx v t) := by
  have ha := ang_C h hv.1
  have hb := aAng_b v
  have hl := aLen_b t
  have hr := rd_C h hv ht hb
  have br := aRd_b v t (aAng v)
  have m1 := Int.emod_nonneg (aRd v t (aAng v) - aAng v) (show aLen t ≠ 0 by omega)
  have m2 := Int.emod_lt_of_pos (aRd v t (aAng v) - aAng v) (show 0 < aLen t by omega)
  have e1 : f_X5_remainder (f_X3_readingAt (zI t) (f_X3_angle σ) σ - f_X3_angle σ) (f_X5_at 41 (zI t) σ) σ = zI ((aRd v t (aAng v) - aAng v) % aLen t) := by
    rw [ha.2, hr.2, len_C ht, z_sub]
    exact rem_C (by unfold zB; omega) (by omega) (by omega)
  have e2 : f_X5_at 41 (zI t) σ / 2 = zI (aLen t / 2) := by
    rw [len_C ht]
    exact z_divn (by omega) (by omega) (b := 2) (by omega) (by omega)
  constructor
  · refine ⟨at_ok (by decide), ha.1, ?_, ha.1, rem_ok, ⟨fun _ => trivial, fun _ => trivial⟩⟩
    rw [ha.2]
    exact hr.1
  · show o_ite (f_X5_remainder (f_X3_readingAt (zI t) (f_X3_angle σ) σ - f_X3_angle σ) (f_X5_at 41 (zI t) σ) σ ≤ f_X5_at 41 (zI t) σ / 2) (f_X5_remainder (f_X3_readingAt (zI t) (f_X3_angle σ) σ - f_X3_angle σ) (f_X5_at 41 (zI t) σ) σ) (f_X5_remainder (f_X3_readingAt (zI t) (f_X3_angle σ) σ - f_X3_angle σ) (f_X5_at 41 (zI t) σ) σ - f_X5_at 41 (zI t) σ) = _
    rw [e1, e2, len_C ht, z_sub, it_iff (z_le (by unfold zB; omega) (by unfold zB; omega)), it_z]
    rfl
