set_option linter.all false
def cx (s : Int) (v : Nat → Int) : Nat → Int := if v 1 = 0 then (if v 3 = 0 then v else if v 4 = 0 then vu (vu v 3 (v 3 - 1)) 2 ((v 2 + s) % 64) else vu (vu v 3 (v 3 - 1)) 4 (v 4 - 1)) else vu v 2 ((v 2 + s) % 64)
def cxs (s : Int) : Nat → (Nat → Int) → Nat → Int
  | 0, v => v
  | m + 1, v => cxs s m (cx s v)
theorem cx_vs {s N : Int} {v : Nat → Int} (h : VS N v) : VS N (cx s v) := by
  have h2 := h.2.2.1
  have h3 := h.2.2.2.1
  have h4 := h.2.2.2.2.1
  unfold cx
  split
  · split
    · exact h
    · split
      · exact (h.vu (by unfold VK; omega)).vu (by unfold VK; omega)
      · exact (h.vu (by unfold VK; omega)).vu (by unfold VK; omega)
  · exact h.vu (by unfold VK; omega)
theorem vu_comm {v : Nat → Int} {i j : Nat} {x y : Int} (h : i ≠ j) : vu (vu v i x) j y = vu (vu v j y) i x := by
  funext k
  show (if k = j then y else if k = i then x else v k) = (if k = i then x else if k = j then y else v k)
  by_cases a : k = j
  · rw [if_pos a, if_neg (by omega), if_pos a]
  · rw [if_neg a, if_neg a]
theorem cx_0 {s z : Int} {v : Nat → Int} : cx s (vu v 0 z) = vu (cx s v) 0 z := by
  have e1 : vu v 0 z 1 = v 1 := rfl
  have e2 : vu v 0 z 2 = v 2 := rfl
  have e3 : vu v 0 z 3 = v 3 := rfl
  have e4 : vu v 0 z 4 = v 4 := rfl
  unfold cx
  rw [e1, e2, e3, e4]
  split
  · split
    · rfl
    · split
      · rw [vu_comm (show (0 : Nat) ≠ 3 by omega), vu_comm (show (0 : Nat) ≠ 2 by omega)]
      · rw [vu_comm (show (0 : Nat) ≠ 3 by omega), vu_comm (show (0 : Nat) ≠ 4 by omega)]
  · rw [vu_comm (show (0 : Nat) ≠ 2 by omega)]
theorem cxs_0 {s z : Int} : ∀ (m : Nat) (v : Nat → Int), cxs s m (vu v 0 z) = vu (cxs s m v) 0 z
  | 0, v => rfl
  | m + 1, v => by
    show cxs s m (cx s (vu v 0 z)) = _
    rw [cx_0, cxs_0 m]
    rfl
theorem cx_at0 {s : Int} {v : Nat → Int} : cx s v 0 = v 0 := by
  unfold cx
  split
  · split
    · rfl
    · split <;> rfl
  · rfl
theorem cxs_at0 {s : Int} : ∀ (m : Nat) (v : Nat → Int), cxs s m v 0 = v 0
  | 0, v => rfl
  | m + 1, v => by
    show cxs s m (cx s v) 0 = _
    rw [cxs_at0 m, cx_at0]
theorem cxs_vs {s N : Int} : ∀ (m : Nat) (v : Nat → Int), VS N v → VS N (cxs s m v)
  | 0, v, h => h
  | m + 1, v, h => cxs_vs m _ (cx_vs h)
theorem cb43_C {σ : Sg} {v : Nat → Int} {n : Nat} {hs : Nat → Nat → Int} {L : Nat} {tx : Nat → Int} {s : Int} (hC : AC σ v n hs L tx) (h2 : 0 ≤ v 2 ∧ v 2 < 64) (hs : -1 ≤ s ∧ s ≤ 1) : ok_X3_crossBound_43 (zI s) σ ∧ f_X3_crossBound_43 (zI s) σ = pu σ 1 1 (zI ((v 2 + s) % 64)) := by
  have e : f_X5_remainder (σ 1 1 + zI s) 64 σ = zI ((v 2 + s) % 64) := by
    rw [hC.nc.s1, z_add]
    exact rem_C (d := 64) (by unfold zB; omega) (by omega) (by omega)
  refine ⟨⟨rem_ok, trivial⟩, ?_⟩
  unfold f_X3_crossBound_43
  rw [e]
theorem cb_C {σ : Sg} {v : Nat → Int} {n : Nat} {hs : Nat → Nat → Int} {L : Nat} {tx : Nat → Int} {s N : Int} (hC : AC σ v n hs L tx) (hv : VS N v) (hsg : -1 ≤ s ∧ s ≤ 1) : ok_X3_crossBound (zI s) σ ∧ ∀ σ' : Sg, σ' = f_X3_crossBound (zI s) σ → AC σ' (cx s v) n hs L tx ∧ ∀ c, c ≠ 1 → σ' c = σ c := by
  have h1 := hv.2.1
  have h2 := hv.2.2.1
  have h3 := hv.2.2.2.1
  have h4 := hv.2.2.2.2.1
  have e2 : (zI (v 1) = 0) ↔ v 1 = 0 := zq0 (by unfold zB; omega)
  have e3 : (zI (v 3) = 0) ↔ v 3 = 0 := zq0 (by unfold zB; omega)
  have z3 : zI (v 3) - 1 = zI (v 3 - 1) := z_sub _ 1
  have z4 : zI (v 4) - 1 = zI (v 4 - 1) := z_sub _ 1
  have A3 : AC (pu σ 1 3 (zI (v 3 - 1))) (vu v 3 (v 3 - 1)) n hs L tx := hC.upd (Or.inl ⟨rfl, by omega, rfl⟩)
  have e4 : (zI (v 4) ≤ 0) ↔ v 4 ≤ 0 := by rw [z_0]; exact z_le (by unfold zB; omega) (by unfold zB; omega)
  have s4 : pu σ 1 3 (zI (v 3 - 1)) 1 4 = zI (v 4) := by rw [pu_un (by omega)]; exact hC.nc.s4
  have cA := cb43_C hC h2 hsg
  have cB := cb43_C A3 (s := s) (show 0 ≤ v 2 ∧ v 2 < 64 from h2) hsg
  have B : AC (pu σ 1 1 (zI ((v 2 + s) % 64))) (vu v 2 ((v 2 + s) % 64)) n hs L tx := hC.upd (Or.inl ⟨rfl, by omega, rfl⟩)
  have C1 : AC (pu (pu σ 1 3 (zI (v 3 - 1))) 1 1 (zI ((v 2 + s) % 64))) (vu (vu v 3 (v 3 - 1)) 2 ((v 2 + s) % 64)) n hs L tx := A3.upd (Or.inl ⟨rfl, by omega, rfl⟩)
  have C2 : AC (pu (pu σ 1 3 (zI (v 3 - 1))) 1 4 (zI (v 4 - 1))) (vu (vu v 3 (v 3 - 1)) 4 (v 4 - 1)) n hs L tx := A3.upd (Or.inl ⟨rfl, by omega, rfl⟩)
  constructor
  · unfold ok_X3_crossBound
    dsimp only
    rw [hC.nc.s3, z3]
    exact ⟨fun _ => ⟨fun _ => trivial, fun _ => ⟨fun _ => cB.1, fun _ => trivial⟩⟩, fun _ => cA.1⟩
  · intro σ' e
    unfold f_X3_crossBound at e
    dsimp only at e
    rw [hC.nc.s2, hC.nc.s3, z3, s4, z4, cA.2, cB.2, it_iff e2, it_iff e3, it_iff e4] at e
    unfold cx
    by_cases q1 : v 1 = 0
    · rw [itp q1] at e
      rw [if_pos q1]
      by_cases q3 : v 3 = 0
      · rw [itp q3] at e
        rw [if_pos q3, e]
        exact ⟨hC, fun _ _ => rfl⟩
      · rw [itn q3] at e
        rw [if_neg q3]
        by_cases q4 : v 4 = 0
        · rw [itp (by omega)] at e
          rw [if_pos q4, e]
          exact ⟨C1, fun c hc => by rw [pu_ne hc, pu_ne hc]⟩
        · rw [itn (by omega)] at e
          rw [if_neg q4, e]
          exact ⟨C2, fun c hc => by rw [pu_ne hc, pu_ne hc]⟩
    · rw [itn q1] at e
      rw [if_neg q1, e]
      exact ⟨B, fun c hc => by rw [pu_ne hc]⟩
theorem vu_self {v : Nat → Int} {k : Nat} {x : Int} (h : x = v k) : vu v k x = v := by
  funext j
  show (if j = k then x else v j) = v j
  split
  · rename_i e; rw [e, h]
  · rfl
