set_option linter.all false
theorem z_abs {a : Int} (h : zB a) : (if (0 : Int32) ≤ zI a then zI a else 0 - zI a) = zI (if 0 ≤ a then a else 0 - a) := by
  have e0 : ((0 : Int32) ≤ zI a) ↔ 0 ≤ a := by rw [z_0]; exact z_le (by unfold zB; omega) h
  have e1 : (0 : Int32) - zI a = zI (0 - a) := z_sub 0 a
  by_cases q : 0 ≤ a
  · rw [if_pos (e0.mpr q), if_pos q]
  · rw [if_neg (fun c => q (e0.mp c)), if_neg q, e1]
def pr (v : Nat → Int) (t s : Nat) : Int := v (11 + (8 * t + s)) + v (35 + t) - v (38 + (8 * t + s))
def pg (v : Nat → Int) (t s : Nat) : Prop := - v 7 ≤ pr v t s ∧ pr v t s ≤ v 7
def pq (v : Nat → Int) (s : Nat) : Int := if (- v 7 ≤ pr v 0 s ∧ pr v 0 s ≤ v 7) ∧ (- v 7 ≤ pr v 1 s ∧ pr v 1 s ≤ v 7) ∧ (- v 7 ≤ pr v 2 s ∧ pr v 2 s ≤ v 7) then 0 else 1
def pc (v : Nat → Int) : Nat → Nat → Int
  | _, 0 => 0
  | i, m + 1 => pq v i + pc v (i + 1) m
theorem pr_b {v : Nat → Int} {t s : Nat} {N : Int} (hv : VS N v) (ht : t < 3) (hs : s < 8) : -40 ≤ pr v t s ∧ pr v t s ≤ 40 := by
  have a := hv.2.2.2.2.2.2.2.2.2.2.2.1 (11 + (8 * t + s)) (by omega) (by omega)
  have b := hv.2.2.2.2.2.2.2.2.2.2.2.1 (35 + t) (by omega) (by omega)
  have c := hv.2.2.2.2.2.2.2.2.2.2.2.2 (38 + (8 * t + s)) (by omega) (by omega)
  unfold pr
  omega
theorem pr_C {σ : Sg} {v : Nat → Int} {t s : Nat} (h : NC σ v) (ht : t < 3) (hs : s < 8) : ((f_X5_at 3 (f_X5_cell (zI t) (zI s) σ) σ) + (f_X5_at 4 (zI t) σ)) - (f_X5_at 5 (f_X5_cell (zI t) (zI s) σ) σ) = zI (pr v t s) := by
  rw [cell_C, at_in (show 8 * t + s < o_len 3 by show _ < 24; omega) (by decide), at_in (show t < o_len 4 from ht) (by decide), at_in (show 8 * t + s < o_len 5 by show _ < 24; omega) (by decide)]
  show (σ 3 (8 * t + s) + σ 4 t) - σ 5 (8 * t + s) = _
  rw [h.err (by omega), h.noi ht, h.cor (by omega), z_add, z_sub]
  rfl
theorem poor1_C {σ : Sg} {v : Nat → Int} {s : Nat} {N : Int} (h : NC σ v) (hv : VS N v) (hs : s < 8) : ok_X3_isPoor (zI s) σ ∧ f_X3_isPoor (zI s) σ = zI (pq v s) := by
  have h7 := hv.2.2.2.2.2.2.2.1
  have l : f_X5_at 2 0 σ = zI (v 7) := by
    have e : f_X5_at 2 (zI ((0 : Nat) : Int)) σ = σ 2 0 := at_in (show 0 < o_len 2 by decide) (by decide)
    exact e.trans (h.set (k := 0) (by omega))
  have b0 := pr_b (t := 0) hv (by omega) hs
  have b1 := pr_b (t := 1) hv (by omega) hs
  have b2 := pr_b (t := 2) hv (by omega) hs
  have e0 : ((f_X5_at 3 (f_X5_cell 0 (zI s) σ) σ) + (f_X5_at 4 0 σ)) - (f_X5_at 5 (f_X5_cell 0 (zI s) σ) σ) = zI (pr v 0 s) := pr_C (t := 0) h (by omega) hs
  have e1 : ((f_X5_at 3 (f_X5_cell 1 (zI s) σ) σ) + (f_X5_at 4 1 σ)) - (f_X5_at 5 (f_X5_cell 1 (zI s) σ) σ) = zI (pr v 1 s) := pr_C (t := 1) h (by omega) hs
  have e2 : ((f_X5_at 3 (f_X5_cell 2 (zI s) σ) σ) + (f_X5_at 4 2 σ)) - (f_X5_at 5 (f_X5_cell 2 (zI s) σ) σ) = zI (pr v 2 s) := pr_C (t := 2) h (by omega) hs
  have c0 : (zI (if 0 ≤ pr v 0 s then pr v 0 s else 0 - pr v 0 s) ≤ zI (v 7)) ↔ pg v 0 s := by
    rw [z_le (by unfold zB; split <;> omega) (by unfold zB; omega)]
    unfold pg
    split <;> omega
  have c1 : (zI (if 0 ≤ pr v 1 s then pr v 1 s else 0 - pr v 1 s) ≤ zI (v 7)) ↔ pg v 1 s := by
    rw [z_le (by unfold zB; split <;> omega) (by unfold zB; omega)]
    unfold pg
    split <;> omega
  have c2 : (zI (if 0 ≤ pr v 2 s then pr v 2 s else 0 - pr v 2 s) ≤ zI (v 7)) ↔ pg v 2 s := by
    rw [z_le (by unfold zB; split <;> omega) (by unfold zB; omega)]
    unfold pg
    split <;> omega
  constructor
  · exact ⟨trivial, at_ok (by decide), at_ok (by decide), at_ok (by decide), at_ok (by decide), ⟨fun _ => ⟨trivial, at_ok (by decide), at_ok (by decide), at_ok (by decide), at_ok (by decide), ⟨fun _ => ⟨trivial, at_ok (by decide), at_ok (by decide), at_ok (by decide), at_ok (by decide), ⟨fun _ => trivial, fun _ => trivial⟩⟩, fun _ => trivial⟩⟩, fun _ => trivial⟩⟩
  · unfold f_X3_isPoor
    dsimp only
    rw [e0, e1, e2, l, z_abs (by unfold zB; omega), z_abs (by unfold zB; omega), z_abs (by unfold zB; omega)]
    unfold pq
    by_cases q0 : pg v 0 s
    · rw [itp (c0.mpr q0)]
      by_cases q1 : pg v 1 s
      · rw [itp (c1.mpr q1)]
        by_cases q2 : pg v 2 s
        · rw [itp (c2.mpr q2), if_pos ⟨q0, q1, q2⟩]; rfl
        · rw [itn (fun c => q2 (c2.mp c)), if_neg (fun c => q2 c.2.2)]; rfl
      · rw [itn (fun c => q1 (c1.mp c)), if_neg (fun c => q1 c.2.1)]; rfl
    · rw [itn (fun c => q0 (c0.mp c)), if_neg (fun c => q0 c.1)]; rfl
theorem poor_C {σ : Sg} {v : Nat → Int} {N : Int} (h : NC σ v) (hv : VS N v) : ∀ (n i : Nat) (a : Int), i ≤ 8 → 8 - i < n → ok_X5_poor_4 n (zI a) (zI i) σ ∧ f_X5_poor_4 n (zI a) (zI i) σ = zI (a + pc v i (8 - i)) := by
  intro n
  induction n with
  | zero => intro i a h1 h2; omega
  | succ n ih =>
    intro i a h1 h2
    have e1 : ((8 : Int32) ≤ zI (i : Int)) ↔ (8 : Int) ≤ i := by rw [z_n]; exact z_le (by unfold zB; omega) (by unfold zB; omega)
    by_cases q : 8 ≤ i
    · refine ⟨⟨fun _ => trivial, fun c => absurd (e1.mpr (by omega)) c⟩, ?_⟩
      show o_ite _ _ _ = _
      rw [itp (e1.mpr (by omega)), show 8 - i = 0 by omega]
      show _ = zI (a + 0)
      rw [Int.add_zero]
    · have p1 := poor1_C h hv (s := i) (by omega)
      have hq : pq v i = 0 ∨ pq v i = 1 := by unfold pq; split <;> omega
      have s0 := ih (i + 1) a (by omega) (by omega)
      have s1 := ih (i + 1) (a + 1) (by omega) (by omega)
      have z1 : zI a + 1 = zI (a + 1) := z_add a 1
      have ec : pc v i (8 - i) = pq v i + pc v (i + 1) (8 - (i + 1)) := by
        rw [show 8 - i = (8 - (i + 1)) + 1 by omega]
        rfl
      constructor
      · refine ⟨fun c => absurd (e1.mp c) (by omega), fun _ => ⟨p1.1, ⟨fun _ => ?_, fun _ => ?_⟩⟩⟩
        · rw [z_s]; exact s0.1
        · rw [z_s, z1]; exact s1.1
      · show o_ite _ _ (o_ite _ _ _) = _
        rw [itn (fun c => absurd (e1.mp c) (by omega)), p1.2, ec, z_s, z1, s0.2, s1.2]
        rcases hq with e | e
        · rw [e, itp (show zI 0 = 0 from rfl), Int.zero_add]
        · rw [e, itn (by decide), Int.add_assoc]
theorem idx8 {b t s : Nat} : zI (b : Int) + ((8 : Int32) * zI (t : Int) + zI (s : Int)) = zI ((b + (8 * t + s) : Nat) : Int) := by
  have e : (8 : Int32) * zI (t : Int) = zI (8 * (t : Int)) := z_mul 8 t
  rw [e, z_add, z_add]
  exact congrArg zI (by omega)
