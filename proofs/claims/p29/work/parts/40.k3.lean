set_option linter.all false
/-! what is refused; the law's byTable, sum, refused -/
theorem out_ne {a b c : Int32} {σ : Sg} (h : a < b ∨ ¬ a ≤ c) : ¬ f_X5_isOutside a b c σ = 0 := by
  unfold f_X5_isOutside
  rcases h with h | h
  · rw [itp h]; decide
  · by_cases q : a < b
    · rw [itp q]; decide
    · rw [itn q, itn h]; decide
theorem i_turn {P : Int32} {σ : Sg} (h : P < -9999 ∨ ¬ P ≤ 9999) : ok_X5_turn P σ ∧ f_X5_turn P σ = (-1, σ) := by
  have i : ¬ f_X5_isOutside P (-9999) 9999 σ = 0 := out_ne h
  refine ⟨⟨out_ok, fun c => absurd c i, fun _ => trivial⟩, ?_⟩
  unfold f_X5_turn
  rw [itn i]
theorem i_power {P : Int32} {σ : Sg} (h : P < 0 ∨ ¬ P ≤ 1) : ok_X5_power P σ ∧ f_X5_power P σ = (-1, σ) := by
  have i : ¬ f_X5_isOutside P 0 1 σ = 0 := out_ne h
  refine ⟨⟨out_ok, fun c => absurd c i, fun _ => trivial⟩, ?_⟩
  unfold f_X5_power
  rw [itn i]
theorem i_brown {P : Int32} {σ : Sg} (h : P < 1 ∨ ¬ P ≤ 9) : ok_X5_brownout P σ ∧ f_X5_brownout P σ = (-1, σ) := by
  have i : ¬ f_X5_isOutside P 1 9 σ = 0 := out_ne h
  refine ⟨⟨out_ok, fun c => absurd c i, fun _ => trivial⟩, ?_⟩
  unfold f_X5_brownout
  rw [itn i]
theorem i_charge {P : Int32} {σ : Sg} (h : P < 0 ∨ ¬ P ≤ 999) : ok_X5_charge P σ ∧ f_X5_charge P σ = (-1, σ) := by
  have i : ¬ f_X5_isOutside P 0 999 σ = 0 := out_ne h
  refine ⟨⟨out_ok, fun c => absurd c i, fun _ => trivial⟩, ?_⟩
  unfold f_X5_charge
  rw [itn i]
theorem i_disk {σ : Sg} : ok_X5_disk 0 0 10 σ ∧ f_X5_disk 0 0 10 σ = (-1, σ) := by
  have i : ¬ f_X5_isOutside 10 (-9) 9 σ = 0 := out_ne (by decide)
  have j : ¬ f_X5_isCell 0 0 σ = 0 := fun c => (ce_C (a := 0) (b := 0) (σ := σ) (by unfold zB; omega) (by unfold zB; omega)).mp c (by omega)
  refine ⟨⟨ce_okC, fun _ => trivial, fun _ => ⟨out_ok, fun c => absurd c i, fun _ => trivial⟩⟩, ?_⟩
  unfold f_X5_disk
  rw [itn j, itn i]
theorem i_noise {σ : Sg} : ok_X5_noise 0 (-10) σ ∧ f_X5_noise 0 (-10) σ = (-1, σ) := by
  have i : ¬ f_X5_isOutside (-10) (-9) 9 σ = 0 := out_ne (by decide)
  have j : ¬ f_X5_isTrack 0 σ = 0 := fun c => (tr_C (a := 0) (σ := σ) (by unfold zB; omega)).mp c (by omega)
  refine ⟨⟨tr_okC, fun _ => trivial, fun _ => ⟨out_ok, fun c => absurd c i, fun _ => trivial⟩⟩, ?_⟩
  unfold f_X5_noise
  rw [itn j, itn i]
theorem i_set1 {σ : Sg} : ok_X5_set 1 33 σ ∧ f_X5_set 1 33 σ = (-1, σ) := by
  have j : f_X5_isOutside 1 0 3 σ = 0 := out_0 (a := 1) (b := 0) (c := 3) (by unfold zB; omega) (by unfold zB; omega) (by omega)
  have e1 : f_X5_at 42 1 σ = zI (sLo 1) := sLo_C (t := 1) (by omega)
  have e2 : f_X5_at 43 1 σ = zI (sHi 1) := sHi_C (t := 1) (by omega)
  have i : ¬ f_X5_isOutside 33 (f_X5_at 42 1 σ) (f_X5_at 43 1 σ) σ = 0 := by
    rw [e1, e2]
    exact out_ne (by decide)
  refine ⟨⟨out_ok, fun _ => ⟨at_ok (by decide), at_ok (by decide), out_ok, fun c => absurd c i, fun _ => trivial⟩, fun _ => trivial⟩, ?_⟩
  unfold f_X5_set
  rw [itp j]
  dsimp only
  rw [itn i]
theorem i_set2 {σ : Sg} : ok_X5_set (-1) 0 σ ∧ f_X5_set (-1) 0 σ = (-1, σ) := by
  have i : ¬ f_X5_isOutside (-1) 0 3 σ = 0 := out_ne (by decide)
  refine ⟨⟨out_ok, fun c => absurd c i, fun _ => trivial⟩, ?_⟩
  unfold f_X5_set
  rw [itn i]
theorem i_corr {σ : Sg} : ok_X5_correct 2 7 (-21) σ ∧ f_X5_correct 2 7 (-21) σ = (-1, σ) := by
  have i : ¬ f_X5_isOutside (-21) (-20) 20 σ = 0 := out_ne (by decide)
  have j : ¬ f_X5_isCell 2 7 σ = 0 := fun c => (ce_C (a := 2) (b := 7) (σ := σ) (by unfold zB; omega) (by unfold zB; omega)).mp c (by omega)
  refine ⟨⟨ce_okC, fun _ => trivial, fun _ => ⟨out_ok, fun c => absurd c i, fun _ => trivial⟩⟩, ?_⟩
  unfold f_X5_correct
  rw [itn j, itn i]
theorem i_look {σ : Sg} : ok_X5_look 5 σ ∧ f_X5_look 5 σ = (-1, σ) := by
  have i : ¬ f_X5_isOutside 5 0 4 σ = 0 := out_ne (by decide)
  refine ⟨⟨out_ok, fun c => absurd c i, fun _ => trivial⟩, ?_⟩
  unfold f_X5_look
  rw [itn i]
theorem i_surv {σ : Sg} : ok_X5_survey 100 0 σ ∧ f_X5_survey 100 0 σ = (-1, σ) := by
  have i : ¬ f_X5_isOutside 100 102 4080 σ = 0 := out_ne (by decide)
  refine ⟨⟨out_ok, fun c => absurd c i, fun _ => trivial⟩, ?_⟩
  unfold f_X5_survey
  rw [itn i]
theorem i_found {σ : Sg} : ok_X5_found 0 0 0 (-1) σ ∧ f_X5_found 0 0 0 (-1) σ = -1 := by
  have i : ¬ f_X5_isOutside (-1) 0 1 σ = 0 := out_ne (by decide)
  have j0 : ¬ f_X5_isReading 0 0 σ = 0 := fun c => (isR_C (t := 0) (P := 0) (σ := σ) (by omega) (by unfold zB; omega)).mp c (by decide)
  have j1 : ¬ f_X5_isReading 1 0 σ = 0 := fun c => (isR_C (t := 1) (P := 0) (σ := σ) (by omega) (by unfold zB; omega)).mp c (by decide)
  have j2 : ¬ f_X5_isReading 2 0 σ = 0 := fun c => (isR_C (t := 2) (P := 0) (σ := σ) (by omega) (by unfold zB; omega)).mp c (by decide)
  have k1 : ∀ s : Sg, ok_X5_isReading 0 0 s := fun s => isR_okC (t := 0)
  have k2 : ∀ s : Sg, ok_X5_isReading 1 0 s := fun s => isR_okC (t := 1)
  have k3 : ∀ s : Sg, ok_X5_isReading 2 0 s := fun s => isR_okC (t := 2)
  refine ⟨⟨k1 _, fun _ => trivial, fun _ => ⟨k2 _, fun _ => trivial, fun _ => ⟨k3 _, fun _ => trivial, fun _ => ⟨out_ok, fun c => absurd c i, fun _ => trivial⟩⟩⟩⟩, ?_⟩
  unfold f_X5_found
  rw [itn j0, itn j1, itn j2, itn i]
theorem i_two {σ : Sg} : ok_X5_byTwo 1 0 1 0 σ ∧ f_X5_byTwo 1 0 1 0 σ = -1 := by
  have j : ¬ f_X5_isTrack 1 σ = 0 := fun c => (tr_C (a := 1) (σ := σ) (by unfold zB; omega)).mp c (by omega)
  refine ⟨⟨tr_okC, fun _ => trivial, fun _ => ⟨tr_okC, fun _ => trivial, fun _ => ⟨fun _ => trivial, fun c => absurd rfl c⟩⟩⟩, ?_⟩
  unfold f_X5_byTwo
  rw [itn j, itn j, itp rfl]
theorem i_type {σ : Sg} : ok_X5_type 10 σ ∧ f_X5_type 10 σ = (-1, σ) := by
  have i : ¬ f_X5_isOutside 10 32 126 σ = 0 := out_ne (by decide)
  refine ⟨⟨out_ok, fun c => absurd c i, fun _ => trivial⟩, ?_⟩
  unfold f_X5_type
  rw [itn i]
theorem i_fault {σ : Sg} : ok_X5_fault 3 σ ∧ f_X5_fault 3 σ = (-1, σ) := by
  have i : ¬ f_X5_isOutside 3 0 1 σ = 0 := out_ne (by decide)
  refine ⟨⟨out_ok, fun c => absurd c i, fun _ => trivial⟩, ?_⟩
  unfold f_X5_fault
  rw [itn i]
/-! a shadow walked along one way: defined there, and its value -/
def G2 {α : Type} (ok : Prop) (F : α) (P : α → Prop) : Prop := ok ∧ P F
theorem g_t {α : Type} {c A B : Prop} {X Y : α} {P : α → Prop} (h : c) (k : G2 A X P) : G2 ((c → A) ∧ (¬ c → B)) (o_ite c X Y) P := ⟨⟨fun _ => k.1, fun g => absurd h g⟩, by rw [itp h]; exact k.2⟩
theorem g_n {α : Type} {c A B : Prop} {X Y : α} {P : α → Prop} (h : ¬ c) (k : G2 B Y P) : G2 ((c → A) ∧ (¬ c → B)) (o_ite c X Y) P := ⟨⟨fun g => absurd g h, fun _ => k.1⟩, by rw [itn h]; exact k.2⟩
theorem g_b {α : Type} {c A B : Prop} {X Y : α} {P : α → Prop} (k1 : c → G2 A X P) (k2 : ¬ c → G2 B Y P) : G2 ((c → A) ∧ (¬ c → B)) (o_ite c X Y) P := by
  by_cases h : c
  · exact g_t h (k1 h)
  · exact g_n h (k2 h)
theorem g_s {α : Type} {S A : Prop} {X : α} {P : α → Prop} (h : S) (k : G2 A X P) : G2 (S ∧ A) X P := ⟨⟨h, k.1⟩, k.2⟩
theorem g_e {α : Type} {X : α} {P : α → Prop} (h : P X) : G2 True X P := ⟨trivial, h⟩
theorem n_lt {a b : Int} (h : b ≤ a) (ha : zB a) (hb : zB b) : ¬ zI a < zI b := fun c => by have := (z_lt ha hb).mp c; omega
theorem n_le {a b : Int} (h : b < a) (ha : zB a) (hb : zB b) : ¬ zI a ≤ zI b := fun c => by have := (z_le ha hb).mp c; omega
theorem y_lt {a b : Int} (h : a < b) (ha : zB a) (hb : zB b) : zI a < zI b := (z_lt ha hb).mpr h
theorem y_le {a b : Int} (h : a ≤ b) (ha : zB a) (hb : zB b) : zI a ≤ zI b := (z_le ha hb).mpr h
theorem n_eq {a b : Int} (h : a ≠ b) (ha : zB a) (hb : zB b) : ¬ zI a = zI b := fun c => h ((z_eq ha hb).mp c)
section K3
variable {N : Int} {σ : Sg} {v : Nat → Int} {n : Nat} {hs : Nat → Nat → Int}
theorem l_byT (h : IS N σ v n hs) {s : Nat} (hs8 : s < 8) {w : Int} (hw : 0 ≤ w ∧ w ≤ 1) : ok_L_byTable (zI s) (zI w) σ ∧ f_L_byTable (zI s) (zI w) σ = zI (if w = 0 then f2 v (aAng v) s else d2 v (aAng v) s) := by
  have one : ∀ (t : Nat), t < 3 → ok_L_rest (((zI (aRd v t (aAng v))) - (zI (v (38 + (8 * t + s)) + 100))) + 100) (zI (aLen t)) σ ∧ f_L_rest (((zI (aRd v t (aAng v))) - (zI (v (38 + (8 * t + s)) + 100))) + 100) (zI (aLen t)) σ = zI (aCr v t (aRd v t (aAng v)) s) := fun t ht => by
    have b1 := aRd_b v t (aAng v)
    have b2 := aLen_b t
    have b3 := h.2.1.2.2.2.2.2.2.2.2.2.2.2.2 (38 + (8 * t + s)) (by omega) (by omega)
    have e : (zI (aRd v t (aAng v)) - zI (v (38 + (8 * t + s)) + 100)) + 100 = zI (aRd v t (aAng v) - v (38 + (8 * t + s))) := by
      rw [z_sub, show (100 : Int32) = zI 100 from rfl, z_add]
      congr 1
      omega
    rw [e]
    exact l_rest (by omega) (by omega) (by omega)
  have r0 := k_read h (t := 0) (by omega)
  have r1 := k_read h (t := 1) (by omega)
  have r2 := k_read h (t := 2) (by omega)
  have c0 := k_corr h (t := 0) (s := s) (by omega) hs8
  have c1 := k_corr h (t := 1) (s := s) (by omega) hs8
  have c2 := k_corr h (t := 2) (s := s) (by omega) hs8
  have r0' : f_X5_reading 0 σ = zI (aRd v 0 (aAng v)) := r0.2
  have r1' : f_X5_reading 1 σ = zI (aRd v 1 (aAng v)) := r1.2
  have r2' : f_X5_reading 2 σ = zI (aRd v 2 (aAng v)) := r2.2
  have c0' : f_X5_correction 0 (zI s) σ = zI (v (38 + (8 * 0 + s)) + 100) := c0.2
  have c1' : f_X5_correction 1 (zI s) σ = zI (v (38 + (8 * 1 + s)) + 100) := c1.2
  have c2' : f_X5_correction 2 (zI s) σ = zI (v (38 + (8 * 2 + s)) + 100) := c2.2
  have o0 : ok_L_rest (((zI (aRd v 0 (aAng v))) - (zI (v (38 + (8 * 0 + s)) + 100))) + 100) 272 σ ∧ f_L_rest (((zI (aRd v 0 (aAng v))) - (zI (v (38 + (8 * 0 + s)) + 100))) + 100) 272 σ = zI (aCr v 0 (aRd v 0 (aAng v)) s) := one 0 (by omega)
  have o1 : ok_L_rest (((zI (aRd v 1 (aAng v))) - (zI (v (38 + (8 * 1 + s)) + 100))) + 100) 255 σ ∧ f_L_rest (((zI (aRd v 1 (aAng v))) - (zI (v (38 + (8 * 1 + s)) + 100))) + 100) 255 σ = zI (aCr v 1 (aRd v 1 (aAng v)) s) := one 1 (by omega)
  have o2 : ok_L_rest (((zI (aRd v 2 (aAng v))) - (zI (v (38 + (8 * 2 + s)) + 100))) + 100) 240 σ ∧ f_L_rest (((zI (aRd v 2 (aAng v))) - (zI (v (38 + (8 * 2 + s)) + 100))) + 100) 240 σ = zI (aCr v 2 (aRd v 2 (aAng v)) s) := one 2 (by omega)
  have fo := k_found (P4 := w) h (rdg_cr v (aRd v 0 (aAng v)) (aRd v 1 (aAng v)) (aRd v 2 (aAng v)) s) hw
  constructor
  · unfold ok_L_byTable
    dsimp only
    rw [r0', r1', r2', c0', c1', c2', o0.2, o1.2, o2.2]
    exact ⟨r0.1, c0.1, o0.1, r1.1, c1.1, o1.1, r2.1, c2.1, o2.1, fo.1, trivial⟩
  · unfold f_L_byTable
    dsimp only
    rw [r0', r1', r2', c0', c1', c2', o0.2, o1.2, o2.2, fo.2]
    rfl
end K3
