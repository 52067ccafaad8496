set_option linter.all false
theorem isR_okC {t : Nat} {p : Int32} {σ : Sg} : ok_X5_isReading (zI t) p σ := ⟨at_ok (by decide), out_ok, ⟨fun _ => trivial, fun _ => trivial⟩⟩
theorem isR_C {t : Nat} {P : Int} {σ : Sg} (h : t < 3) (hP : zB P) : (f_X5_isReading (zI t) (zI P) σ = 0) ↔ ¬ (0 ≤ P ∧ P < aLen t) := by
  have hl := aLen_b t
  have e : f_X5_at 41 (zI t) σ - 1 = zI (aLen t - 1) := by rw [len_C h]; exact z_sub _ 1
  have r : (f_X5_isOutside (zI P) 0 (zI (aLen t - 1)) σ = 0) ↔ (0 ≤ P ∧ P ≤ aLen t - 1) := out_iff (b := 0) hP (by unfold zB; omega) (by unfold zB; omega)
  unfold f_X5_isReading
  rw [e]
  by_cases q : 0 ≤ P ∧ P ≤ aLen t - 1
  · rw [itp (r.mpr q)]
    exact ⟨fun c => absurd c (by decide), fun c => absurd (by omega) c⟩
  · rw [itn (fun c => q (r.mp c))]
    exact ⟨fun _ => by omega, fun _ => rfl⟩
