set_option linter.all false
theorem cx_place {s : Int} {v : Nat → Int} : cx s v 0 = v 0 := cx_at0
theorem turn_C {D Q s N : Int} (hsg : -1 ≤ s ∧ s ≤ 1) (hD : -100 ≤ D ∧ D ≤ 100) {n' : Nat} {hs : Nat → Nat → Int} {L : Nat} {tx : Nat → Int} : ∀ (n i : Nat) (σ : Sg) (v : Nat → Int), AC σ v n' hs L tx → VS N v → (i : Int) ≤ (if 0 ≤ D then D else 0 - D) → (if 0 ≤ D then D else 0 - D) - i < n → ok_X5_turn_81 n (zI Q) (zI D) (zI s) (zI i) σ ∧ ∀ q : Int32 × Sg, q = f_X5_turn_81 n (zI Q) (zI D) (zI s) (zI i) σ → q.1 = zI Q ∧ AC q.2 (vu (cxs s ((if 0 ≤ D then D else 0 - D) - i).toNat v) 0 Q) n' hs L tx ∧ ∀ c, c ≠ 1 → q.2 c = σ c := by
  intro n
  have eD : (if (0 : Int32) ≤ zI D then zI D else 0 - zI D) = zI (if 0 ≤ D then D else 0 - D) := by
    have e0 : ((0 : Int32) ≤ zI D) ↔ 0 ≤ D := by rw [z_0]; exact z_le (by unfold zB; omega) (by unfold zB; omega)
    have e1 : (0 : Int32) - zI D = zI (0 - D) := z_sub 0 D
    by_cases q : 0 ≤ D
    · rw [if_pos (e0.mpr q), if_pos q]
    · rw [if_neg (fun c => q (e0.mp c)), if_neg q, e1]
  have hA : 0 ≤ (if 0 ≤ D then D else 0 - D) ∧ (if 0 ≤ D then D else 0 - D) ≤ 100 := by split <;> omega
  generalize (if 0 ≤ D then D else 0 - D) = A at *
  induction n with
  | zero => intro i σ v hC hv h1 h2; omega
  | succ n ih =>
    intro i σ v hC hv h1 h2
    have e1 : (zI A ≤ zI (i : Int)) ↔ A ≤ i := z_le (by unfold zB; omega) (by unfold zB; omega)
    by_cases q : A ≤ i
    · constructor
      · unfold ok_X5_turn_81
        rw [eD]
        exact ⟨fun _ => trivial, fun c => absurd (e1.mpr q) c⟩
      · intro p e
        have e' : p = (zI Q, pu σ 1 0 (zI Q)) := by
          rw [e]
          show o_ite _ _ _ = _
          rw [eD, itp (e1.mpr q)]
        have u : AC (pu σ 1 0 (zI Q)) (vu v 0 Q) n' hs L tx := hC.upd (Or.inl ⟨rfl, by omega, rfl⟩)
        rw [e', show (A - i).toNat = 0 by omega]
        exact ⟨rfl, u, fun c hc => pu_ne hc⟩
    · have cb := cb_C hC hv hsg
      obtain ⟨w1, w2⟩ := cb.2 _ rfl
      have r := ih (i + 1) _ _ w1 (cx_vs hv) (by omega) (by omega)
      rw [← z_s] at r
      constructor
      · unfold ok_X5_turn_81
        rw [eD]
        exact ⟨fun c => absurd (e1.mp c) q, fun _ => ⟨cb.1, r.1⟩⟩
      · intro p e
        have e' : p = f_X5_turn_81 n (zI Q) (zI D) (zI s) (zI i + 1) (f_X3_crossBound (zI s) σ) := by
          rw [e]
          show o_ite _ _ _ = _
          rw [eD, itn (fun c => q (e1.mp c))]
        obtain ⟨r1, r2, r3⟩ := r.2 p e'
        refine ⟨r1, ?_, fun c hc => by rw [r3 c hc, w2 c hc]⟩
        rw [show (A - i).toNat = (A - ((i + 1 : Nat) : Int)).toNat + 1 by omega]
        exact r2
theorem z_1020 {a : Int} (h : 0 ≤ a ∧ a < 100000) : zI a / 1020 = zI (a / 1020) := z_divn h.1 (by omega) (b := 1020) (by omega) (by omega)
theorem zm9999 : (-9999 : Int32) = zI (-9999) := by rw [z_n 9999, z_neg]
