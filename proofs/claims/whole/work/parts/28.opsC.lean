set_option linter.all false
theorem op_undo (N : Int) : Op ok_X5_undo f_X5_undo ok_X6_undo f_X6_undo N := by
  refine Op.of fun σ v n hs L tx hC hv hh hn hL hT => ?_
  have uC := undo_C hC hn (fun j hj => (hh j hj).2.1)
  by_cases q : n = 0
  · exact op_same hC hv hh hn hL hT (-2) uC.1 (q_same (uC.2.1 q)) (fun τ hτ => m_same hτ (undo_M hτ hn).1 ((undo_M hτ hn).2.1 q))
  · refine ⟨zI ((n - 1 : Nat) : Int), hs (n - 1), n - 1, hs, L, tx, uC.1, fun p e => ?_, fun τ hτ => ⟨(undo_M hτ hn).1, fun p e => (undo_M hτ hn).2.2 (by omega) p e⟩, (hh (n - 1) (by omega)).up (by omega), fun j hj => (hh j (by omega)).up (by omega), by omega, hL, hT⟩
    obtain ⟨a, b, c⟩ := uC.2.2 (by omega) p e
    exact ⟨a, b, fun c' hc => c c' (by omega)⟩
/-- text and length alone changed -/
theorem AC.txt {σ σ' : Sg} {v : Nat → Int} {n : Nat} {hs : Nat → Nat → Int} {L L' : Nat} {tx tx' : Nat → Int} (h : AC σ v n hs L tx) (h1 : ∀ c, c < 28 → σ' c = σ c) (h2 : σ' 30 1 = zI (L' : Int)) (h3 : ∀ k, k < L' → σ' 31 k = zI (tx' k)) : AC σ' v n hs L' tx' := by
  obtain ⟨a1, a2, ⟨o, ho, a3, a4⟩, a5, a6⟩ := h
  refine ⟨fun k hk => by rw [vw_same (fun c q1 q2 => h1 c (by omega)), a1 k hk], by rw [h1 6 (by omega), a2], ⟨o, ho, by rw [h1 6 (by omega), a3], fun j hj k hk => ?_⟩, h2, h3⟩
  have lo := hb_lo o j
  rw [vw_same (fun c q1 q2 => h1 c (by omega)), a4 j hj k hk]
theorem AM.txt {σ σ' : Sg} {v : Nat → Int} {n : Nat} {hs : Nat → Nat → Int} {L L' : Nat} {tx tx' : Nat → Int} (h : AM σ v n hs L tx) (h1 : σ' 35 = σ 35) (h2 : σ' 36 = σ 36) (h3 : ∀ k, k < L' → σ' 37 k = zI (tx' k)) (h4 : σ' 34 2 = σ 34 2) (h5 : σ' 34 4 = zI (L' : Int)) : AM σ' v n hs L' tx' := by
  obtain ⟨a1, a2, a3, a4, a5⟩ := h
  exact ⟨fun k hk => by rw [h1, a1 k hk], by rw [h4, a2], fun j hj k hk => by rw [h2, a3 j hj k hk], h5, h3⟩
theorem qC {σ : Sg} {v : Nat → Int} {n : Nat} {hs : Nat → Nat → Int} {L : Nat} {tx : Nat → Int} {F : Int32 × Sg} {r : Int32} {s' : Sg} (e : F = (r, s')) (hA : AC s' v n hs L tx) (hf : ∀ c, 34 ≤ c → s' c = σ c) : ∀ q : Int32 × Sg, q = F → q.1 = r ∧ AC q.2 v n hs L tx ∧ ∀ c, 34 ≤ c → q.2 c = σ c := by
  intro q h
  rw [h, e]
  exact ⟨rfl, hA, hf⟩
theorem qM {σ : Sg} {v : Nat → Int} {n : Nat} {hs : Nat → Nat → Int} {L : Nat} {tx : Nat → Int} {F : Int32 × Sg} {r : Int32} {s' : Sg} (e : F = (r, s')) (hA : AM s' v n hs L tx) (hf : ∀ c, c < 34 → s' c = σ c) : ∀ q : Int32 × Sg, q = F → q.1 = r ∧ AM q.2 v n hs L tx ∧ ∀ c, c < 34 → q.2 c = σ c := by
  intro q h
  rw [h, e]
  exact ⟨rfl, hA, hf⟩
theorem op_clearText (N : Int) : Op ok_X5_clearText f_X5_clearText ok_X6_clearText f_X6_clearText N := by
  refine Op.of fun σ v n hs L tx hC hv hh hn hL hT => ?_
  refine ⟨zI L, v, n, hs, 0, tx, trivial, fun q e => ?_, fun τ hτ => ⟨trivial, fun q e => ?_⟩, hv.up (by omega), fun j hj => (hh j hj).up (by omega), hn, by omega, fun k hk => by omega⟩
  · have e' : q = (σ 30 1, pu σ 30 1 0) := e
    subst e'
    have hA : AC (pu σ 30 1 0) v n hs 0 tx := hC.txt (fun c hc => pu_ne (by omega)) pu_at (fun k hk => by omega)
    exact ⟨hC.2.2.2.1, hA, fun c hc => pu_ne (by omega)⟩
  · have e' : q = (τ 34 4, pu τ 34 4 0) := e
    subst e'
    have hA : AM (pu τ 34 4 0) v n hs 0 tx := hτ.txt (pu_ne (by omega)) (pu_ne (by omega)) (fun k hk => by omega) (pu_un (by omega)) pu_at
    exact ⟨hτ.2.2.2.1, hA, fun c hc => pu_ne (by omega)⟩
theorem op_type (p : Int32) (N : Int) : Op (ok_X5_type p) (f_X5_type p) (ok_X6_type p) (f_X6_type p) N := by
  obtain ⟨P, hP, rfl⟩ := zarg p
  refine Op.of fun σ v n hs L tx hC hv hh hn hL hT => ?_
  have eC : ∀ s : Sg, (f_X5_isOutside (zI P) 32 126 s = 0) ↔ (32 ≤ P ∧ P ≤ 126) := fun s => out_iff (b := 32) (c := 126) hP (by unfold zB; omega) (by unfold zB; omega)
  have eM : ∀ s : Sg, (f_X6_in (zI P) 32 126 s = 0) ↔ ¬ (32 ≤ P ∧ P ≤ 126) := fun s => in_iff (b := 32) (c := 126) hP (by unfold zB; omega) (by unfold zB; omega)
  by_cases q : 32 ≤ P ∧ P ≤ 126
  · have e1 : (σ 30 1 < 60) ↔ L < 60 := by
      rw [hC.2.2.2.1, z_n, z_lt (by unfold zB; omega) (by unfold zB; omega)]
      omega
    have e2 : ∀ τ : Sg, AM τ v n hs L tx → ((τ 34 4 = 60) ↔ L = 60) := fun τ hτ => by
      rw [hτ.2.2.2.1, z_n, z_eq (by unfold zB; omega) (by unfold zB; omega)]
      omega
    by_cases q2 : L < 60
    · refine ⟨zI ((L + 1 : Nat) : Int), v, n, hs, L + 1, fun k => if k = L then P else tx k, ⟨out_ok, ⟨fun _ => ⟨fun _ => ⟨⟨put_ok (by decide), trivial⟩, trivial⟩, fun _ => trivial⟩, fun _ => trivial⟩⟩, fun p e => ?_, fun τ hτ => ⟨⟨in_ok, ⟨fun _ => trivial, fun _ => ⟨fun _ => trivial, fun _ => ⟨by rw [hτ.2.2.2.1]; exact z_in (by omega) (by omega) (by omega), trivial⟩⟩⟩⟩, fun p e => ?_⟩, hv.up (by omega), fun j hj => (hh j hj).up (by omega), hn, by omega, fun k hk => ?_⟩
      · have a5 := hC.2.2.2.1
        have a6 := hC.2.2.2.2
        have ea : f_X0_append (zI P) σ = pu (pu σ 31 L (zI P)) 30 1 (zI ((L + 1 : Nat) : Int)) := by
          unfold f_X0_append
          rw [a5, put_in (show L < o_len 31 by show _ < 60; omega) (by decide)]
          show pu (pu σ 31 L (zI P)) 30 1 (pu σ 31 L (zI P) 30 1 + 1) = _
          rw [pu_ne (show 30 ≠ 31 by omega), a5, z_s]
        refine qC (s' := pu (pu σ 31 L (zI P)) 30 1 (zI ((L + 1 : Nat) : Int))) ?_ (hC.txt (fun c hc => ?_) pu_at (fun k hk => ?_)) (fun c hc => ?_) p e
        · unfold f_X5_type
          rw [itp ((eC _).mpr q), itp (e1.mpr q2), ea]
          exact congrArg (fun x => (x, _)) pu_at
        · rw [pu_ne (by omega), pu_ne (by omega)]
        · show _ = zI (if k = L then P else tx k)
          rw [pu_ne (by omega)]
          by_cases qk : k = L
          · rw [if_pos qk, qk, pu_at]
          · rw [if_neg qk, pu_un (by omega), a6 k (by omega)]
        · rw [pu_ne (by omega), pu_ne (by omega)]
      · have a4 := hτ.2.2.2.1
        have a5 := hτ.2.2.2.2
        refine qM (s' := pu (pu τ 37 L (zI P)) 34 4 (zI ((L + 1 : Nat) : Int))) ?_ (hτ.txt ?_ ?_ (fun k hk => ?_) ?_ pu_at) (fun c hc => ?_) p e
        · unfold f_X6_type
          rw [itn (fun c => (eM _).mp c q), itn (fun c => absurd ((e2 τ hτ).mp c) (by omega))]
          rw [a4, z_tn (by omega)]
          show (pu (pu τ 37 L (zI P)) 34 4 (pu τ 37 L (zI P) 34 4 + 1) 34 4, pu (pu τ 37 L (zI P)) 34 4 (pu τ 37 L (zI P) 34 4 + 1)) = _
          rw [pu_ne (show 34 ≠ 37 by omega), a4, z_s, pu_at]
        · rw [pu_ne (by omega), pu_ne (by omega)]
        · rw [pu_ne (by omega), pu_ne (by omega)]
        · show _ = zI (if k = L then P else tx k)
          rw [pu_ne (by omega)]
          by_cases qk : k = L
          · rw [if_pos qk, qk, pu_at]
          · rw [if_neg qk, pu_un (by omega), a5 k (by omega)]
        · rw [pu_un (by omega), pu_ne (by omega)]
        · rw [pu_ne (by omega), pu_ne (by omega)]
      · show 32 ≤ (if k = L then P else tx k) ∧ (if k = L then P else tx k) ≤ 126
        by_cases qk : k = L
        · rw [if_pos qk]; exact q
        · rw [if_neg qk]; exact hT k (by omega)
    · refine op_same hC hv hh hn hL hT (-3) ⟨out_ok, ⟨fun _ => ⟨fun c => absurd (e1.mp c) q2, fun _ => trivial⟩, fun _ => trivial⟩⟩ (q_same ?_) (fun τ hτ => m_same hτ ⟨in_ok, ⟨fun _ => trivial, fun _ => ⟨fun _ => trivial, fun c => absurd ((e2 τ hτ).mpr (by omega)) c⟩⟩⟩ ?_)
      · unfold f_X5_type
        rw [itp ((eC _).mpr q), itn (fun c => q2 (e1.mp c))]
      · unfold f_X6_type
        rw [itn (fun c => (eM _).mp c q), itp ((e2 τ hτ).mpr (by omega))]
  · refine op_same hC hv hh hn hL hT (-1) ⟨out_ok, ⟨fun c => absurd ((eC _).mp c) q, fun _ => trivial⟩⟩ (q_same ?_) (fun τ hτ => m_same hτ ⟨in_ok, ⟨fun _ => trivial, fun c => absurd ((eM _).mpr q) c⟩⟩ ?_)
    · unfold f_X5_type
      rw [itn (fun c => q ((eC _).mp c))]
    · unfold f_X6_type
      rw [itp ((eM _).mpr q)]
theorem op_forget (N : Int) (hN : 0 ≤ N) : Op ok_X5_forget f_X5_forget ok_X6_forget f_X6_forget N := by
  refine Op.of fun σ v n hs L tx hC hv hh hn hL hT => ?_
  have hkeep := keep_C hC hn hv.2.1
  obtain ⟨k1, k2⟩ := hkeep.2 _ rfl
  have v5 := hv.2.2.2.2.2.1
  have e1 : (zI (v 5) = -1) ↔ v 5 = -1 := by rw [z_m1]; exact z_eq (by unfold zB; omega) (by unfold zB; omega)
  have u1 := (k1.upd (c := 1) (s := 5) (k0 := 5) (z := -1) (Or.inl ⟨rfl, by omega, rfl⟩)).upd (c := 1) (s := 6) (k0 := 6) (z := 0) (Or.inl ⟨rfl, by omega, rfl⟩)
  refine ⟨zI (if v 5 = -1 then 0 else 1), vu (vu v 5 (-1)) 6 0, pn n, ph n hs v, L, tx, ⟨hkeep.1, ⟨fun _ => ⟨⟨fun _ => trivial, fun _ => trivial⟩, trivial⟩, fun _ => ⟨⟨fun _ => trivial, fun _ => trivial⟩, trivial⟩⟩⟩, fun q e => ?_, fun τ hτ => ?_, ((hv.vu (by unfold VK; omega)).vu (by unfold VK; omega)).up (by omega), fun j hj => (ph_vs hv hh hn j hj).up (by omega), pn_le hn, hL, hT⟩
  · have e' : q = (zI (if v 5 = -1 then 0 else 1), pu (pu (f_X2_keep σ) 1 5 (zI (-1))) 1 6 (zI 0)) := by
      rw [e]
      unfold f_X5_forget f_X5_forget_27
      dsimp only
      rw [k1.nc.s5]
      by_cases q5 : v 5 = -1
      · rw [itp (e1.mpr q5), if_pos q5]
        unfold f_X5_toNumber
        rw [itp rfl]
        rfl
      · rw [itn (fun c => q5 (e1.mp c)), if_neg q5]
        unfold f_X5_toNumber
        rw [itn (by decide)]
        rfl
    subst e'
    exact ⟨rfl, u1, fun c hc => by show pu _ _ _ _ c = _; rw [pu_ne (by omega), pu_ne (by omega), k2 c (Or.inr (by omega))]⟩
  · obtain ⟨m1, m2, m3⟩ := (saves_M hτ hn).2 _ rfl
    have hp := puts_M (k := 5) (x := (-1 : Int32)) hτ hn (by omega)
    have hp2 : f_X6_puts 5 (-1) τ = (f_X6_saves τ 35 5, pu (f_X6_saves τ) 35 5 (-1)) := hp.2
    refine ⟨⟨hp.1, ⟨fun _ => trivial, fun _ => trivial⟩⟩, fun q e => ?_⟩
    have e' : q = (zI (if v 5 = -1 then 0 else 1), pu (pu (f_X6_saves τ) 35 5 (zI (-1))) 35 6 (zI 0)) := by
      rw [e]
      unfold f_X6_forget
      rw [hp2]
      dsimp only
      rw [m1.nm 5 (by omega)]
      by_cases q5 : v 5 = -1
      · rw [itp (e1.mpr q5), if_pos q5]
        rfl
      · rw [itn (fun c => q5 (e1.mp c)), if_neg q5]
        rfl
    subst e'
    exact ⟨rfl, m1.upd.upd, fun c hc => by show pu _ _ _ _ c = _; rw [pu_ne (by omega), pu_ne (by omega), m2 c (by omega) (by omega)]⟩
noncomputable def lookR (v : Nat → Int) (P : Int) : Int := if P = 0 then fL v (aAng v) else if P = 1 then fD v (aAng v) else if P = 2 then f1 v (aAng v) else if P = 3 then fN v (aAng v) else if fL v (aAng v) = aAng v then 1 else 0
theorem op_look (p : Int32) (N : Int) : Op (ok_X5_look p) (f_X5_look p) (ok_X6_look p) (f_X6_look p) N := by
  obtain ⟨P, hP, rfl⟩ := zarg p
  refine Op.of fun σ v n hs L tx hC hv hh hn hL hT => ?_
  have eC : ∀ s : Sg, (f_X5_isOutside (zI P) 0 4 s = 0) ↔ (0 ≤ P ∧ P ≤ 4) := fun s => out_iff (b := 0) (c := 4) hP (by unfold zB; omega) (by unfold zB; omega)
  have eM : ∀ s : Sg, (f_X6_in (zI P) 0 4 s = 0) ↔ ¬ (0 ≤ P ∧ P ≤ 4) := fun s => in_iff (b := 0) (c := 4) hP (by unfold zB; omega) (by unfold zB; omega)
  have p0 : (zI P = 0) ↔ P = 0 := by rw [z_0]; exact z_eq hP (by unfold zB; omega)
  have p1 : (zI P = 1) ↔ P = 1 := by rw [z_n]; exact z_eq hP (by unfold zB; omega)
  have p2 : (zI P = 2) ↔ P = 2 := by rw [z_n]; exact z_eq hP (by unfold zB; omega)
  have p3 : (zI P = 3) ↔ P = 3 := by rw [z_n]; exact z_eq hP (by unfold zB; omega)
  have ba := aAng_b v
  have bl := fL_b v (aAng v)
  have el : (zI (fL v (aAng v)) = zI (aAng v)) ↔ fL v (aAng v) = aAng v := z_eq (by unfold zB; omega) (by unfold zB; omega)
  by_cases q : 0 ≤ P ∧ P ≤ 4
  · have a1 := ang_C hC.nc hv.1
    have s1 := se_C hC.nc hv ba
    obtain ⟨w, hw⟩ : ∃ w : Sg, w = f_X1_search (f_X3_angle σ) σ := ⟨_, rfl⟩
    obtain ⟨w0, w1, w2, w3, wf⟩ := s1.2 w (by rw [hw, a1.2])
    have aw := ang_C (wf.nc hC.nc) hv.1
    refine op_same hC hv hh hn hL hT (zI (lookR v P)) ⟨out_ok, ⟨fun _ => ⟨a1.1, by rw [a1.2]; exact s1.1, ?_⟩, fun _ => trivial⟩⟩ (fun q' e => ?_) (fun τ hτ => ?_)
    · dsimp only
      rw [← hw]
      exact ⟨fun _ => trivial, fun _ => ⟨fun _ => trivial, fun _ => ⟨fun _ => trivial, fun _ => ⟨fun _ => trivial, fun _ => ⟨aw.1, ⟨fun _ => ⟨⟨fun _ => trivial, fun _ => trivial⟩, trivial⟩, fun _ => ⟨⟨fun _ => trivial, fun _ => trivial⟩, trivial⟩⟩⟩⟩⟩⟩⟩
    · have e' : q' = (zI (lookR v P), w) := by
        rw [e]
        unfold f_X5_look f_X5_look_114
        rw [itp ((eC _).mpr q)]
        dsimp only
        rw [← hw, w0, w1, w2, w3, aw.2, it_iff p0, it_iff p1, it_iff p2, it_iff p3, it_iff el]
        unfold lookR
        by_cases c0 : P = 0
        · rw [itp c0, if_pos c0]
        · rw [itn c0, if_neg c0]
          by_cases c1 : P = 1
          · rw [itp c1, if_pos c1]
          · rw [itn c1, if_neg c1]
            by_cases c2 : P = 2
            · rw [itp c2, if_pos c2]
            · rw [itn c2, if_neg c2]
              by_cases c3 : P = 3
              · rw [itp c3, if_pos c3]
              · rw [itn c3, if_neg c3]
                unfold f_X5_toNumber
                by_cases c4 : fL v (aAng v) = aAng v
                · rw [itp c4, if_pos c4, itn (by decide)]; rfl
                · rw [itn c4, if_neg c4, itp rfl]; rfl
      subst e'
      exact ⟨rfl, fun c hc => wf.1 c (by omega), congrFun (wf.1 30 (by omega)) 1, wf.1 31 (by omega), fun c hc => wf.1 c (by omega)⟩
    · have a2 := ang_M hτ.nm hv.1
      have s2 := lo_M hτ.nm hv ba
      obtain ⟨u, hu⟩ : ∃ u : Sg, u = f_X6_looks (f_X6_angle τ) τ := ⟨_, rfl⟩
      obtain ⟨x0, x1, x2, x3, xf⟩ := s2.2 u (by rw [hu, a2])
      have au := ang_M (xf.nm hτ.nm) hv.1
      refine ⟨⟨in_ok, ⟨fun _ => trivial, fun _ => ⟨trivial, by rw [a2]; exact s2.1, ⟨fun _ => trivial, fun _ => ⟨fun _ => trivial, fun _ => ⟨fun _ => trivial, fun _ => ⟨fun _ => trivial, fun _ => ⟨trivial, ⟨fun _ => trivial, fun _ => trivial⟩⟩⟩⟩⟩⟩⟩⟩⟩, fun q' e => ?_⟩
      have e' : q' = (zI (lookR v P), u) := by
        rw [e]
        unfold f_X6_look
        rw [itn (fun c => (eM _).mp c q)]
        dsimp only
        rw [← hu, x0, x1, x2, x3, au, it_iff p0, it_iff p1, it_iff p2, it_iff p3, it_iff el]
        unfold lookR
        by_cases c0 : P = 0
        · rw [itp c0, if_pos c0]
        · rw [itn c0, if_neg c0]
          by_cases c1 : P = 1
          · rw [itp c1, if_pos c1]
          · rw [itn c1, if_neg c1]
            by_cases c2 : P = 2
            · rw [itp c2, if_pos c2]
            · rw [itn c2, if_neg c2]
              by_cases c3 : P = 3
              · rw [itp c3, if_pos c3]
              · rw [itn c3, if_neg c3]
                by_cases c4 : fL v (aAng v) = aAng v
                · rw [itp c4, if_pos c4]; rfl
                · rw [itn c4, if_neg c4]; rfl
      subst e'
      exact ⟨rfl, hτ.fr (xf.1 35 (by omega) (by omega)) (xf.1 36 (by omega) (by omega)) (xf.1 37 (by omega) (by omega)) (xf.2 2 (by decide)) (xf.2 4 (by decide)), fun c hc => xf.1 c (by omega) (by omega)⟩
  · refine op_same hC hv hh hn hL hT (-1) ⟨out_ok, ⟨fun c => absurd ((eC _).mp c) q, fun _ => trivial⟩⟩ (q_same ?_) (fun τ hτ => m_same hτ ⟨in_ok, ⟨fun _ => trivial, fun c => absurd ((eM _).mpr q) c⟩⟩ ?_)
    · unfold f_X5_look
      rw [itn (fun c => q ((eC _).mp c))]
    · unfold f_X6_look
      rw [itp ((eM _).mpr q)]
