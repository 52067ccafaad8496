set_option linter.all false
theorem out_iff {a b c : Int} {σ : Sg} (ha : zB a) (hb : zB b) (hc : zB c) : (f_X5_isOutside (zI a) (zI b) (zI c) σ = 0) ↔ (b ≤ a ∧ a ≤ c) := by
  rw [out_C ha hb hc, z_0, z_eq (by unfold zB; split <;> (try split) <;> omega) (by unfold zB; omega)]
  split
  · omega
  · split <;> omega
theorem tr_okC {p : Int32} {σ : Sg} : ok_X5_isTrack p σ := ⟨out_ok, ⟨fun _ => trivial, fun _ => trivial⟩⟩
theorem tr_C {a : Int} {σ : Sg} (ha : zB a) : (f_X5_isTrack (zI a) σ = 0) ↔ ¬ (0 ≤ a ∧ a ≤ 2) := by
  have e : (f_X5_isOutside (zI a) 0 2 σ = 0) ↔ (0 ≤ a ∧ a ≤ 2) := out_iff (b := 0) (c := 2) ha (by unfold zB; omega) (by unfold zB; omega)
  unfold f_X5_isTrack
  by_cases q : 0 ≤ a ∧ a ≤ 2
  · rw [itp (e.mpr q)]
    exact ⟨fun c => absurd c (by decide), fun c => absurd q c⟩
  · rw [itn (fun c => q (e.mp c))]
    exact ⟨fun _ => q, fun _ => rfl⟩
theorem ce_okC {p q : Int32} {σ : Sg} : ok_X5_isCell p q σ := ⟨tr_okC, ⟨fun _ => trivial, fun _ => ⟨out_ok, ⟨fun _ => trivial, fun _ => trivial⟩⟩⟩⟩
theorem ce_C {a b : Int} {σ : Sg} (ha : zB a) (hb : zB b) : (f_X5_isCell (zI a) (zI b) σ = 0) ↔ ¬ ((0 ≤ a ∧ a ≤ 2) ∧ 0 ≤ b ∧ b ≤ 7) := by
  have e : (f_X5_isOutside (zI b) 0 7 σ = 0) ↔ (0 ≤ b ∧ b ≤ 7) := out_iff (b := 0) (c := 7) hb (by unfold zB; omega) (by unfold zB; omega)
  have e2 := tr_C (σ := σ) ha
  unfold f_X5_isCell
  by_cases q : 0 ≤ a ∧ a ≤ 2
  · rw [itn (fun c => (e2.mp c) q)]
    by_cases q2 : 0 ≤ b ∧ b ≤ 7
    · rw [itp (e.mpr q2)]
      exact ⟨fun c => absurd c (by decide), fun c => absurd ⟨q, q2⟩ c⟩
    · rw [itn (fun c => q2 (e.mp c))]
      exact ⟨fun _ c => q2 c.2, fun _ => rfl⟩
  · rw [itp (e2.mpr q)]
    exact ⟨fun _ c => q c.1, fun _ => rfl⟩
theorem zarg (p : Int32) : ∃ P : Int, zB P ∧ p = zI P := ⟨p.toInt, z_rng p, z_of p⟩
