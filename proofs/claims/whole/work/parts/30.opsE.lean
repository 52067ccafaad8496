set_option linter.all false
theorem isR_okC {t : Nat} {p : Int32} {σ : Sg} : ok_X5_isReading (zI t) p σ := ⟨at_ok (by decide), out_ok, ⟨fun _ => trivial, fun _ => trivial⟩⟩
theorem isR_okM {q p : Int32} {σ : Sg} : ok_X6_isReading q p σ := ⟨len_okM, in_ok, (z_nb in_b).1, trivial⟩
theorem isR_C {t : Nat} {P : Int} {σ : Sg} (h : t < 3) (hP : zB P) : (f_X5_isReading (zI t) (zI P) σ = 0) ↔ ¬ (0 ≤ P ∧ P < aLen t) := by
  have hl := aLen_b t
  have e : f_X5_at 41 (zI t) σ - 1 = zI (aLen t - 1) := by rw [len_C h]; exact z_sub _ 1
  have r : (f_X5_isOutside (zI P) 0 (zI (aLen t - 1)) σ = 0) ↔ (0 ≤ P ∧ P ≤ aLen t - 1) := out_iff (b := 0) hP (by unfold zB; omega) (by unfold zB; omega)
  unfold f_X5_isReading
  rw [e]
  by_cases q : 0 ≤ P ∧ P ≤ aLen t - 1
  · rw [itp (r.mpr q)]
    exact ⟨fun c => absurd c (by decide), fun c => absurd (by omega) c⟩
  · rw [itn (fun c => q (r.mp c))]
    exact ⟨fun _ => by omega, fun _ => rfl⟩
theorem isR_M {t : Nat} {P : Int} {σ : Sg} (h : t < 3) (hP : zB P) : (f_X6_isReading (zI t) (zI P) σ = 0) ↔ ¬ (0 ≤ P ∧ P < aLen t) := by
  have hl := aLen_b t
  have e : f_X6_lengthOf (zI t) σ - 1 = zI (aLen t - 1) := by rw [len_M h]; exact z_sub _ 1
  have r : (f_X6_in (zI P) 0 (zI (aLen t - 1)) σ = 0) ↔ ¬ (0 ≤ P ∧ P ≤ aLen t - 1) := in_iff (b := 0) hP (by unfold zB; omega) (by unfold zB; omega)
  unfold f_X6_isReading
  rw [e, r]
  omega
theorem fr.am {σ σ' : Sg} {ks : List Nat} {v : Nat → Int} {n : Nat} {hs : Nat → Nat → Int} {L : Nat} {tx : Nat → Int} (h : fr 34 ks σ σ') (h2 : 2 ∉ ks) (h4 : 4 ∉ ks) (hM : AM σ v n hs L tx) : AM σ' v n hs L tx := hM.fr (h.1 35 (by omega)) (h.1 36 (by omega)) (h.1 37 (by omega)) (h.2 2 h2) (h.2 4 h4)
theorem op_found (p1 p2 p3 p4 : Int32) (N : Int) : Op (ok_X5_found p1 p2 p3 p4) (fun σ => (f_X5_found p1 p2 p3 p4 σ, σ)) (ok_X6_found p1 p2 p3 p4) (f_X6_found p1 p2 p3 p4) N := by
  obtain ⟨P1, hP1, rfl⟩ := zarg p1
  obtain ⟨P2, hP2, rfl⟩ := zarg p2
  obtain ⟨P3, hP3, rfl⟩ := zarg p3
  obtain ⟨P4, hP4, rfl⟩ := zarg p4
  refine Op.of fun σ v n hs L tx hC hv hh hn hL hT => ?_
  have c1 : ∀ s : Sg, (f_X5_isReading 0 (zI P1) s = 0) ↔ ¬ (0 ≤ P1 ∧ P1 < 272) := fun s => isR_C (t := 0) (by omega) hP1
  have c2 : ∀ s : Sg, (f_X5_isReading 1 (zI P2) s = 0) ↔ ¬ (0 ≤ P2 ∧ P2 < 255) := fun s => isR_C (t := 1) (by omega) hP2
  have c3 : ∀ s : Sg, (f_X5_isReading 2 (zI P3) s = 0) ↔ ¬ (0 ≤ P3 ∧ P3 < 240) := fun s => isR_C (t := 2) (by omega) hP3
  have c4 : ∀ s : Sg, (f_X5_isOutside (zI P4) 0 1 s = 0) ↔ (0 ≤ P4 ∧ P4 ≤ 1) := fun s => out_iff (b := 0) (c := 1) hP4 (by unfold zB; omega) (by unfold zB; omega)
  have m1 : ∀ s : Sg, (f_X6_in (zI P1) 0 271 s = 0) ↔ ¬ (0 ≤ P1 ∧ P1 ≤ 271) := fun s => in_iff (b := 0) (c := 271) hP1 (by unfold zB; omega) (by unfold zB; omega)
  have m2 : ∀ s : Sg, (f_X6_in (zI P2) 0 254 s = 0) ↔ ¬ (0 ≤ P2 ∧ P2 ≤ 254) := fun s => in_iff (b := 0) (c := 254) hP2 (by unfold zB; omega) (by unfold zB; omega)
  have m3 : ∀ s : Sg, (f_X6_in (zI P3) 0 239 s = 0) ↔ ¬ (0 ≤ P3 ∧ P3 ≤ 239) := fun s => in_iff (b := 0) (c := 239) hP3 (by unfold zB; omega) (by unfold zB; omega)
  have m4 : ∀ s : Sg, (f_X6_in (zI P4) 0 1 s = 0) ↔ ¬ (0 ≤ P4 ∧ P4 ≤ 1) := fun s => in_iff (b := 0) (c := 1) hP4 (by unfold zB; omega) (by unfold zB; omega)
  have k1 : ∀ s : Sg, ok_X5_isReading 0 (zI P1) s := fun s => isR_okC (t := 0)
  have k2 : ∀ s : Sg, ok_X5_isReading 1 (zI P2) s := fun s => isR_okC (t := 1)
  have k3 : ∀ s : Sg, ok_X5_isReading 2 (zI P3) s := fun s => isR_okC (t := 2)
  by_cases q1 : 0 ≤ P1 ∧ P1 < 272
  · by_cases q2 : 0 ≤ P2 ∧ P2 < 255
    · by_cases q3 : 0 ≤ P3 ∧ P3 < 240
      · by_cases q4 : 0 ≤ P4 ∧ P4 ≤ 1
        · have hr : rdg P1 P2 P3 := ⟨q1.1, q1.2, q2.1, q2.2, q3.1, q3.2⟩
          have nc := near_C (σ := σ) hr
          have nb := near_b P1 P2 P3
          have dc : f_X5_deviation (zI (near P1 P2 P3)) (zI P1) (zI P2) (zI P3) σ = zI (dev (near P1 P2 P3) P1 P2 P3) := dev_C ⟨by omega, by omega⟩ hr
          refine op_same hC hv hh hn hL hT (zI (if P4 = 0 then near P1 P2 P3 else dev (near P1 P2 P3) P1 P2 P3)) ⟨k1 _, ⟨fun _ => trivial, fun _ => ⟨k2 _, ⟨fun _ => trivial, fun _ => ⟨k3 _, ⟨fun _ => trivial, fun _ => ⟨out_ok, ⟨fun _ => ⟨nc.1, ⟨fun _ => trivial, fun _ => ⟨dev_ok, trivial⟩⟩⟩, fun _ => trivial⟩⟩⟩⟩⟩⟩⟩⟩ (q_same ?_) (fun τ hτ => ?_)
          · unfold f_X5_found
            rw [itn (fun c => (c1 _).mp c q1), itn (fun c => (c2 _).mp c q2), itn (fun c => (c3 _).mp c q3), itp ((c4 _).mpr q4), nc.2, it_iff (zq0 hP4)]
            by_cases q : P4 = 0
            · rw [itp q, if_pos q]
            · rw [itn q, if_neg q]
              dsimp only
              rw [dc]
          · have fm := finds_M (σ := τ) hr
            obtain ⟨w5, w6, wf⟩ := fm.2 _ rfl
            refine ⟨⟨in_ok, ⟨fun _ => trivial, fun _ => ⟨in_ok, ⟨fun _ => trivial, fun _ => ⟨in_ok, ⟨fun _ => trivial, fun _ => ⟨in_ok, ⟨fun _ => trivial, fun _ => ⟨fm.1, ⟨fun _ => trivial, fun _ => trivial⟩⟩⟩⟩⟩⟩⟩⟩⟩⟩, ?_⟩
            refine qM (s' := f_X6_finds (zI P1) (zI P2) (zI P3) τ) ?_ (wf.am (by decide) (by decide) hτ) (fun c hc => wf.1 c (by omega))
            unfold f_X6_found
            rw [itn (fun c => (m1 _).mp c (by omega)), itn (fun c => (m2 _).mp c (by omega)), itn (fun c => (m3 _).mp c (by omega)), itn (fun c => (m4 _).mp c q4)]
            dsimp only
            rw [w5, w6, it_iff (zq0 hP4)]
            by_cases q : P4 = 0
            · rw [itp q, if_pos q]
            · rw [itn q, if_neg q]
        · refine op_same hC hv hh hn hL hT (-1) ⟨k1 _, ⟨fun _ => trivial, fun _ => ⟨k2 _, ⟨fun _ => trivial, fun _ => ⟨k3 _, ⟨fun _ => trivial, fun _ => ⟨out_ok, ⟨fun c => absurd ((c4 _).mp c) q4, fun _ => trivial⟩⟩⟩⟩⟩⟩⟩⟩ (q_same ?_) (fun τ hτ => m_same hτ ⟨in_ok, ⟨fun _ => trivial, fun _ => ⟨in_ok, ⟨fun _ => trivial, fun _ => ⟨in_ok, ⟨fun _ => trivial, fun _ => ⟨in_ok, ⟨fun _ => trivial, fun c => absurd ((m4 _).mpr q4) c⟩⟩⟩⟩⟩⟩⟩⟩ ?_)
          · unfold f_X5_found
            rw [itn (fun c => (c1 _).mp c q1), itn (fun c => (c2 _).mp c q2), itn (fun c => (c3 _).mp c q3), itn (fun c => q4 ((c4 _).mp c))]
          · unfold f_X6_found
            rw [itn (fun c => (m1 _).mp c (by omega)), itn (fun c => (m2 _).mp c (by omega)), itn (fun c => (m3 _).mp c (by omega)), itp ((m4 _).mpr q4)]
      · refine op_same hC hv hh hn hL hT (-1) ⟨k1 _, ⟨fun _ => trivial, fun _ => ⟨k2 _, ⟨fun _ => trivial, fun _ => ⟨k3 _, ⟨fun _ => trivial, fun c => absurd ((c3 _).mpr q3) c⟩⟩⟩⟩⟩⟩ (q_same ?_) (fun τ hτ => m_same hτ ⟨in_ok, ⟨fun _ => trivial, fun _ => ⟨in_ok, ⟨fun _ => trivial, fun _ => ⟨in_ok, ⟨fun _ => trivial, fun c => absurd ((m3 _).mpr (by omega)) c⟩⟩⟩⟩⟩⟩ ?_)
        · unfold f_X5_found
          rw [itn (fun c => (c1 _).mp c q1), itn (fun c => (c2 _).mp c q2), itp ((c3 _).mpr q3)]
        · unfold f_X6_found
          rw [itn (fun c => (m1 _).mp c (by omega)), itn (fun c => (m2 _).mp c (by omega)), itp ((m3 _).mpr (by omega))]
    · refine op_same hC hv hh hn hL hT (-1) ⟨k1 _, ⟨fun _ => trivial, fun _ => ⟨k2 _, ⟨fun _ => trivial, fun c => absurd ((c2 _).mpr q2) c⟩⟩⟩⟩ (q_same ?_) (fun τ hτ => m_same hτ ⟨in_ok, ⟨fun _ => trivial, fun _ => ⟨in_ok, ⟨fun _ => trivial, fun c => absurd ((m2 _).mpr (by omega)) c⟩⟩⟩⟩ ?_)
      · unfold f_X5_found
        rw [itn (fun c => (c1 _).mp c q1), itp ((c2 _).mpr q2)]
      · unfold f_X6_found
        rw [itn (fun c => (m1 _).mp c (by omega)), itp ((m2 _).mpr (by omega))]
  · refine op_same hC hv hh hn hL hT (-1) ⟨k1 _, ⟨fun _ => trivial, fun c => absurd ((c1 _).mpr q1) c⟩⟩ (q_same ?_) (fun τ hτ => m_same hτ ⟨in_ok, ⟨fun _ => trivial, fun c => absurd ((m1 _).mpr (by omega)) c⟩⟩ ?_)
    · unfold f_X5_found
      rw [itp ((c1 _).mpr q1)]
    · unfold f_X6_found
      rw [itp ((m1 _).mpr (by omega))]
/-- by two tracks -/
def is2 (A x B y a : Int) : Prop := 0 ≤ a ∧ a < 4080 ∧ a % A = x ∧ a % B = y
def le2 (A x B y r : Int) : Prop := (is2 A x B y r ∧ ∀ b, b < r → ¬ is2 A x B y b) ∨ (r = -4 ∧ ∀ b, ¬ is2 A x B y b)
theorem le2_one {A x B y r s : Int} (h : le2 A x B y r) (g : le2 A x B y s) : r = s := by
  rcases h with ⟨h1, h2⟩ | ⟨h1, h2⟩
  · rcases g with ⟨g1, g2⟩ | ⟨g1, g2⟩
    · rcases Int.lt_trichotomy r s with q | q | q
      · exact absurd h1 (g2 r q)
      · exact q
      · exact absurd g1 (h2 s q)
    · exact absurd h1 (g2 r)
  · rcases g with ⟨g1, g2⟩ | ⟨g1, g2⟩
    · exact absurd g1 (h2 s)
    · rw [h1, g1]
theorem rd2 {t : Nat} {i : Int} {σ : Sg} (h : t < 3) (hi : 0 ≤ i ∧ i < 10000) : f_X5_remainder (zI i) (f_X5_at 41 (zI t) σ) σ = zI (i % aLen t) := by
  have hl := aLen_b t
  rw [len_C h]
  exact rem_C (by unfold zB; omega) (by omega) (by omega)
theorem two_C {t u : Nat} {x y : Int} {σ : Sg} (ht : t < 3) (hu : u < 3) (hx : 0 ≤ x ∧ x < 1000) (hy : 0 ≤ y ∧ y < 1000) : ∀ (n : Nat) (i : Int), 0 ≤ i → i ≤ 4080 → 4080 - i < n → (∀ b, b < i → ¬ is2 (aLen t) x (aLen u) y b) → ok_X5_byTwo_41 n (zI t) (zI x) (zI u) (zI y) (zI i) σ ∧ ∃ r, le2 (aLen t) x (aLen u) y r ∧ f_X5_byTwo_41 n (zI t) (zI x) (zI u) (zI y) (zI i) σ = zI r := by
  intro n
  induction n with
  | zero => intro i h0 h1 h2; omega
  | succ n ih =>
    intro i h0 h1 h2 h3
    have e1 : ((4080 : Int32) ≤ zI i) ↔ 4080 ≤ i := by rw [z_n]; exact z_le (by unfold zB; omega) (by unfold zB; omega)
    by_cases q : 4080 ≤ i
    · refine ⟨⟨fun _ => trivial, fun c => absurd (e1.mpr q) c⟩, -4, Or.inr ⟨rfl, fun b hb => h3 b (by have := hb.2.1; omega) hb⟩, ?_⟩
      show o_ite _ _ _ = _
      rw [itp (e1.mpr q)]
      rfl
    · have lt := aLen_b t
      have lu := aLen_b u
      have bt : 0 ≤ i % aLen t ∧ i % aLen t < aLen t := ⟨Int.emod_nonneg _ (by omega), Int.emod_lt_of_pos _ (by omega)⟩
      have bu : 0 ≤ i % aLen u ∧ i % aLen u < aLen u := ⟨Int.emod_nonneg _ (by omega), Int.emod_lt_of_pos _ (by omega)⟩
      have r1 := rd2 (σ := σ) ht ⟨h0, show i < 10000 by omega⟩
      have r2 := rd2 (σ := σ) hu ⟨h0, show i < 10000 by omega⟩
      have e2 : (zI (i % aLen t) = zI x) ↔ i % aLen t = x := z_eq (by unfold zB; omega) (by unfold zB; omega)
      have e3 : (zI (i % aLen u) = zI y) ↔ i % aLen u = y := z_eq (by unfold zB; omega) (by unfold zB; omega)
      have z1 : zI i + 1 = zI (i + 1) := z_add i 1
      have st : ¬ is2 (aLen t) x (aLen u) y i → _ := fun hh => ih (i + 1) (by omega) (by omega) (by omega) (fun b hb => by
        by_cases qb : b = i
        · rw [qb]; exact hh
        · exact h3 b (by omega))
      by_cases q2 : i % aLen t = x
      · by_cases q3 : i % aLen u = y
        · refine ⟨⟨fun c => absurd (e1.mp c) q, fun _ => ⟨at_ok (by decide), rem_ok, ⟨fun _ => ⟨at_ok (by decide), rem_ok, ⟨fun _ => trivial, fun c => absurd (by rw [r2]; exact e3.mpr q3) c⟩⟩, fun c => absurd (by rw [r1]; exact e2.mpr q2) c⟩⟩⟩, i, Or.inl ⟨⟨h0, by omega, q2, q3⟩, h3⟩, ?_⟩
          show o_ite _ _ (o_ite _ (o_ite _ _ _) _) = _
          rw [itn (fun c => q (e1.mp c)), r1, itp (e2.mpr q2), r2, itp (e3.mpr q3)]
        · have s := st (fun c => q3 c.2.2.2)
          rw [← z1] at s
          obtain ⟨r, s1, s2⟩ := s.2
          refine ⟨⟨fun c => absurd (e1.mp c) q, fun _ => ⟨at_ok (by decide), rem_ok, ⟨fun _ => ⟨at_ok (by decide), rem_ok, ⟨fun _ => trivial, fun c => s.1⟩⟩, fun c => s.1⟩⟩⟩, r, s1, ?_⟩
          show o_ite _ _ (o_ite _ (o_ite _ _ _) _) = _
          rw [itn (fun c => q (e1.mp c)), r1, itp (e2.mpr q2), r2, itn (fun c => q3 (e3.mp c)), s2]
      · have s := st (fun c => q2 c.2.2.1)
        rw [← z1] at s
        obtain ⟨r, s1, s2⟩ := s.2
        refine ⟨⟨fun c => absurd (e1.mp c) q, fun _ => ⟨at_ok (by decide), rem_ok, ⟨fun _ => ⟨at_ok (by decide), rem_ok, ⟨fun _ => trivial, fun c => s.1⟩⟩, fun c => s.1⟩⟩⟩, r, s1, ?_⟩
        show o_ite _ _ (o_ite _ (o_ite _ _ _) _) = _
        rw [itn (fun c => q (e1.mp c)), r1, itn (fun c => q2 (e2.mp c)), s2]
theorem gap2 {t : Nat} {i b x : Int} (h : i % aLen t = x) (hb : b % aLen t = x) (h1 : i < b) (h2 : b < i + aLen t) : False := by
  unfold aLen at *
  split at h
  · rename_i c; rw [if_pos c] at hb h2; omega
  · rename_i c; rw [if_neg c] at hb h2
    split at h
    · rename_i c; rw [if_pos c] at hb h2; omega
    · rename_i c; rw [if_neg c] at hb h2; omega
theorem two_M {t u : Nat} {x y : Int} {σ : Sg} (ht : t < 3) (hu : u < 3) (hx : 0 ≤ x ∧ x < 1000) (hy : 0 ≤ y ∧ y < 1000) : ∀ (n : Nat) (i : Int), 0 ≤ i → i ≤ 4400 → 4400 - i < n → i % aLen t = x → (∀ b, b < i → ¬ is2 (aLen t) x (aLen u) y b) → ok_X6_byTwo_41 n (zI t) (zI u) (zI y) (zI i) σ ∧ ∃ r, le2 (aLen t) x (aLen u) y r ∧ f_X6_byTwo_41 n (zI t) (zI u) (zI y) (zI i) σ = zI r := by
  intro n
  induction n with
  | zero => intro i h0 h1 h2; omega
  | succ n ih =>
    intro i h0 h1 h2 h4 h3
    have e1 : ((4080 : Int32) ≤ zI i) ↔ 4080 ≤ i := by rw [z_n]; exact z_le (by unfold zB; omega) (by unfold zB; omega)
    by_cases q : 4080 ≤ i
    · refine ⟨⟨fun _ => trivial, fun c => absurd (e1.mpr q) c⟩, -4, Or.inr ⟨rfl, fun b hb => h3 b (by have := hb.2.1; omega) hb⟩, ?_⟩
      show o_ite _ _ _ = _
      rw [itp (e1.mpr q)]
      rfl
    · have lt := aLen_b t
      have lu := aLen_b u
      have bu : 0 ≤ i % aLen u ∧ i % aLen u < aLen u := ⟨Int.emod_nonneg _ (by omega), Int.emod_lt_of_pos _ (by omega)⟩
      have r2 : zI i - zI i / f_X6_lengthOf (zI u) σ * f_X6_lengthOf (zI u) σ = zI (i % aLen u) := by
        rw [len_M hu, z_rem (by unfold zB; omega) (by omega) (by omega), Int.tmod_eq_emod_of_nonneg h0]
      have e3 : (zI (i % aLen u) = zI y) ↔ i % aLen u = y := z_eq (by unfold zB; omega) (by unfold zB; omega)
      have z1 : zI i + f_X6_lengthOf (zI t) σ = zI (i + aLen t) := by rw [len_M ht]; exact z_add i _
      by_cases q3 : i % aLen u = y
      · refine ⟨⟨fun c => absurd (e1.mp c) q, fun _ => ⟨len_okM, by rw [len_M hu]; exact len_nz u, ⟨fun _ => trivial, fun c => absurd (by rw [r2]; exact e3.mpr q3) c⟩⟩⟩, i, Or.inl ⟨⟨h0, by omega, h4, q3⟩, h3⟩, ?_⟩
        show o_ite _ _ (o_ite _ _ _) = _
        rw [itn (fun c => q (e1.mp c)), r2, itp (e3.mpr q3)]
      · have s := ih (i + aLen t) (by omega) (by omega) (by omega) (by rw [Int.add_emod_right]; exact h4) (fun b hb hc => by
          by_cases qb : b < i
          · exact h3 b qb hc
          · by_cases qe : b = i
            · rw [qe] at hc; exact q3 hc.2.2.2
            · exact gap2 h4 hc.2.2.1 (by omega) hb)
        rw [← z1] at s
        obtain ⟨r, s1, s2⟩ := s.2
        refine ⟨⟨fun c => absurd (e1.mp c) q, fun _ => ⟨len_okM, by rw [len_M hu]; exact len_nz u, ⟨fun _ => trivial, fun c => ⟨len_okM, s.1⟩⟩⟩⟩, r, s1, ?_⟩
        show o_ite _ _ (o_ite _ _ _) = _
        rw [itn (fun c => q (e1.mp c)), r2, itn (fun c => q3 (e3.mp c)), s2]
theorem op_byTwo (p1 p2 p3 p4 : Int32) (N : Int) : Op (ok_X5_byTwo p1 p2 p3 p4) (fun σ => (f_X5_byTwo p1 p2 p3 p4 σ, σ)) (ok_X6_byTwo p1 p2 p3 p4) (fun σ => (f_X6_byTwo p1 p2 p3 p4 σ, σ)) N := by
  obtain ⟨P1, hP1, rfl⟩ := zarg p1
  obtain ⟨P2, hP2, rfl⟩ := zarg p2
  obtain ⟨P3, hP3, rfl⟩ := zarg p3
  obtain ⟨P4, hP4, rfl⟩ := zarg p4
  refine Op.of fun σ v n hs L tx hC hv hh hn hL hT => ?_
  have e13 : (zI P1 = zI P3) ↔ P1 = P3 := z_eq hP1 hP3
  have t1 := fun s : Sg => tr_C (σ := s) hP1
  have t3 := fun s : Sg => tr_C (σ := s) hP3
  have u1 := fun s : Sg => tr_M (σ := s) hP1
  have u3 := fun s : Sg => tr_M (σ := s) hP3
  by_cases q1 : 0 ≤ P1 ∧ P1 ≤ 2
  · by_cases q3 : 0 ≤ P3 ∧ P3 ≤ 2
    · by_cases q : P1 = P3
      · refine op_same hC hv hh hn hL hT (-1) ⟨tr_okC, ⟨fun _ => trivial, fun _ => ⟨tr_okC, ⟨fun _ => trivial, fun _ => ⟨fun _ => trivial, fun c => absurd (e13.mpr q) c⟩⟩⟩⟩⟩ (q_same ?_) (fun τ hτ => m_same hτ ⟨tr_okM, ⟨fun _ => trivial, fun _ => ⟨tr_okM, ⟨fun _ => trivial, fun _ => ⟨fun _ => trivial, fun c => absurd (e13.mpr q) c⟩⟩⟩⟩⟩ ?_)
        · unfold f_X5_byTwo
          rw [itn (fun c => (t1 _).mp c q1), itn (fun c => (t3 _).mp c q3), itp (e13.mpr q)]
        · unfold f_X6_byTwo
          rw [itn (fun c => (u1 _).mp c q1), itn (fun c => (u3 _).mp c q3), itp (e13.mpr q)]
      · obtain ⟨t, rfl⟩ := Int.eq_ofNat_of_zero_le q1.1
        obtain ⟨u, rfl⟩ := Int.eq_ofNat_of_zero_le q3.1
        have ht : t < 3 := by omega
        have hu : u < 3 := by omega
        have lt := aLen_b t
        have lu := aLen_b u
        have a2 := fun s : Sg => isR_C (σ := s) ht hP2
        have a4 := fun s : Sg => isR_C (σ := s) hu hP4
        have b2 := fun s : Sg => isR_M (σ := s) ht hP2
        have b4 := fun s : Sg => isR_M (σ := s) hu hP4
        by_cases q2 : 0 ≤ P2 ∧ P2 < aLen t
        · by_cases q4 : 0 ≤ P4 ∧ P4 < aLen u
          · have c := two_C (σ := σ) (x := P2) (y := P4) ht hu ⟨by omega, by omega⟩ ⟨by omega, by omega⟩ oF 0 (by omega) (by omega) (by rw [oF_eq]; omega) (fun b hb hc => by have := hc.1; omega)
            obtain ⟨r, cr, ce⟩ := c.2
            refine op_same hC hv hh hn hL hT (zI r) ⟨tr_okC, ⟨fun _ => trivial, fun _ => ⟨tr_okC, ⟨fun _ => trivial, fun _ => ⟨fun _ => trivial, fun _ => ⟨isR_okC, ⟨fun _ => trivial, fun _ => ⟨isR_okC, ⟨fun _ => trivial, fun _ => c.1⟩⟩⟩⟩⟩⟩⟩⟩⟩ (q_same ?_) (fun τ hτ => ?_)
            · unfold f_X5_byTwo
              rw [itn (fun c => (t1 _).mp c q1), itn (fun c => (t3 _).mp c q3), itn (fun c => q (e13.mp c)), itn (fun c => (a2 _).mp c q2), itn (fun c => (a4 _).mp c q4)]
              exact congrArg (fun x => (x, σ)) ce
            · have m := two_M (σ := τ) (x := P2) (y := P4) ht hu ⟨by omega, by omega⟩ ⟨by omega, by omega⟩ oF P2 (by omega) (by omega) (by rw [oF_eq]; omega) (Int.emod_eq_of_lt q2.1 q2.2) (fun b hb hc => by
                have h0 := hc.1
                have h1 := hc.2.2.1
                rw [Int.emod_eq_of_lt h0 (by omega)] at h1
                omega)
              obtain ⟨r', mr, me⟩ := m.2
              refine m_same hτ ⟨tr_okM, ⟨fun _ => trivial, fun _ => ⟨tr_okM, ⟨fun _ => trivial, fun _ => ⟨fun _ => trivial, fun _ => ⟨isR_okM, ⟨fun _ => trivial, fun _ => ⟨isR_okM, ⟨fun _ => trivial, fun _ => m.1⟩⟩⟩⟩⟩⟩⟩⟩⟩ ?_
              unfold f_X6_byTwo
              rw [itn (fun c => (u1 _).mp c q1), itn (fun c => (u3 _).mp c q3), itn (fun c => q (e13.mp c)), itn (fun c => (b2 _).mp c q2), itn (fun c => (b4 _).mp c q4), me, le2_one mr cr]
          · refine op_same hC hv hh hn hL hT (-1) ⟨tr_okC, ⟨fun _ => trivial, fun _ => ⟨tr_okC, ⟨fun _ => trivial, fun _ => ⟨fun _ => trivial, fun _ => ⟨isR_okC, ⟨fun _ => trivial, fun _ => ⟨isR_okC, ⟨fun _ => trivial, fun c => absurd ((a4 _).mpr q4) c⟩⟩⟩⟩⟩⟩⟩⟩⟩ (q_same ?_) (fun τ hτ => m_same hτ ⟨tr_okM, ⟨fun _ => trivial, fun _ => ⟨tr_okM, ⟨fun _ => trivial, fun _ => ⟨fun _ => trivial, fun _ => ⟨isR_okM, ⟨fun _ => trivial, fun _ => ⟨isR_okM, ⟨fun _ => trivial, fun c => absurd ((b4 _).mpr q4) c⟩⟩⟩⟩⟩⟩⟩⟩⟩ ?_)
            · unfold f_X5_byTwo
              rw [itn (fun c => (t1 _).mp c q1), itn (fun c => (t3 _).mp c q3), itn (fun c => q (e13.mp c)), itn (fun c => (a2 _).mp c q2), itp ((a4 _).mpr q4)]
            · unfold f_X6_byTwo
              rw [itn (fun c => (u1 _).mp c q1), itn (fun c => (u3 _).mp c q3), itn (fun c => q (e13.mp c)), itn (fun c => (b2 _).mp c q2), itp ((b4 _).mpr q4)]
        · refine op_same hC hv hh hn hL hT (-1) ⟨tr_okC, ⟨fun _ => trivial, fun _ => ⟨tr_okC, ⟨fun _ => trivial, fun _ => ⟨fun _ => trivial, fun _ => ⟨isR_okC, ⟨fun _ => trivial, fun c => absurd ((a2 _).mpr q2) c⟩⟩⟩⟩⟩⟩⟩ (q_same ?_) (fun τ hτ => m_same hτ ⟨tr_okM, ⟨fun _ => trivial, fun _ => ⟨tr_okM, ⟨fun _ => trivial, fun _ => ⟨fun _ => trivial, fun _ => ⟨isR_okM, ⟨fun _ => trivial, fun c => absurd ((b2 _).mpr q2) c⟩⟩⟩⟩⟩⟩⟩ ?_)
          · unfold f_X5_byTwo
            rw [itn (fun c => (t1 _).mp c q1), itn (fun c => (t3 _).mp c q3), itn (fun c => q (e13.mp c)), itp ((a2 _).mpr q2)]
          · unfold f_X6_byTwo
            rw [itn (fun c => (u1 _).mp c q1), itn (fun c => (u3 _).mp c q3), itn (fun c => q (e13.mp c)), itp ((b2 _).mpr q2)]
    · refine op_same hC hv hh hn hL hT (-1) ⟨tr_okC, ⟨fun _ => trivial, fun _ => ⟨tr_okC, ⟨fun _ => trivial, fun c => absurd ((t3 _).mpr q3) c⟩⟩⟩⟩ (q_same ?_) (fun τ hτ => m_same hτ ⟨tr_okM, ⟨fun _ => trivial, fun _ => ⟨tr_okM, ⟨fun _ => trivial, fun c => absurd ((u3 _).mpr q3) c⟩⟩⟩⟩ ?_)
      · unfold f_X5_byTwo
        rw [itn (fun c => (t1 _).mp c q1), itp ((t3 _).mpr q3)]
      · unfold f_X6_byTwo
        rw [itn (fun c => (u1 _).mp c q1), itp ((u3 _).mpr q3)]
  · refine op_same hC hv hh hn hL hT (-1) ⟨tr_okC, ⟨fun _ => trivial, fun c => absurd ((t1 _).mpr q1) c⟩⟩ (q_same ?_) (fun τ hτ => m_same hτ ⟨tr_okM, ⟨fun _ => trivial, fun c => absurd ((u1 _).mpr q1) c⟩⟩ ?_)
    · unfold f_X5_byTwo
      rw [itp ((t1 _).mpr q1)]
    · unfold f_X6_byTwo
      rw [itp ((u1 _).mpr q1)]
