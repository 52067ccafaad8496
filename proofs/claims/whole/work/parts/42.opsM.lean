set_option linter.all false
theorem q_fr2 {σ : Sg} {G : Int32 × Sg} {r : Int32} {s' : Sg} (e : G = (r, s')) (h : fC3 σ s') : ∀ q : Int32 × Sg, q = G → q.1 = r ∧ (∀ c, c < 28 → q.2 c = σ c) ∧ q.2 30 1 = σ 30 1 ∧ q.2 31 = σ 31 ∧ ∀ c, 34 ≤ c → q.2 c = σ c := by
  intro q hq
  rw [hq, e]
  exact ⟨rfl, fun c hc => h.1 c (by omega) (by omega) (by omega), h.2, h.1 31 (by omega) (by omega) (by omega), fun c hc => h.1 c (by omega) (by omega) (by omega)⟩
theorem fM3.am {τ τ' : Sg} {v : Nat → Int} {n : Nat} {hs : Nat → Nat → Int} {L : Nat} {tx : Nat → Int} (h : fM3 τ τ') (hM : AM τ v n hs L tx) : AM τ' v n hs L tx := hM.fr (h.1 35 (by omega) (by omega) (by omega)) (h.1 36 (by omega) (by omega) (by omega)) (h.1 37 (by omega) (by omega) (by omega)) (h.2 2 (by decide)) (h.2 4 (by decide))
theorem fC3.ac {σ σ' : Sg} {v : Nat → Int} {n : Nat} {hs : Nat → Nat → Int} {L : Nat} {tx : Nat → Int} (h : fC3 σ σ') (hC : AC σ v n hs L tx) : AC σ' v n hs L tx := hC.fr (fun c hc => h.1 c (by omega) (by omega) (by omega)) h.2 (h.1 31 (by omega) (by omega) (by omega))
theorem op_fault (p1 : Int32) (N : Int) : Op (ok_X5_fault p1) (f_X5_fault p1) (ok_X6_fault p1) (f_X6_fault p1) N := by
  obtain ⟨P1, hP1, rfl⟩ := zarg p1
  refine Op.of fun σ v n hs L tx hC hv hh hn hL hT => ?_
  have eC : ∀ s : Sg, (f_X5_isOutside (zI P1) 0 1 s = 0) ↔ (0 ≤ P1 ∧ P1 ≤ 1) := fun s => out_iff (b := 0) (c := 1) hP1 (by unfold zB; omega) (by unfold zB; omega)
  have eM : ∀ s : Sg, (f_X6_in (zI P1) 0 1 s = 0) ↔ ¬ (0 ≤ P1 ∧ P1 ≤ 1) := fun s => in_iff (b := 0) (c := 1) hP1 (by unfold zB; omega) (by unfold zB; omega)
  by_cases q1 : 0 ≤ P1 ∧ P1 ≤ 1
  · obtain ⟨τ0, h0⟩ := em_ex L tx
    have r0 := scan_L hL hT hC.ec h0
    have gC := r0.2.2.2.2.2.2.1
    obtain ⟨w, hw⟩ : ∃ w : Sg, w = f_X0_scan σ := ⟨_, rfl⟩
    rw [← hw] at gC
    refine op_same hC hv hh hn hL hT (o_ite (w 30 6 = 0) (-4) (o_ite (zI P1 = 0) (w 30 5) (w 30 6))) ⟨out_ok, ⟨fun _ => ⟨r0.1, ⟨fun _ => trivial, fun _ => ⟨fun _ => trivial, fun _ => trivial⟩⟩⟩, fun _ => trivial⟩⟩ (fun p e => q_fr2 (s' := w) ?_ gC p e) (fun τ hτ => ?_)
    · unfold f_X5_fault
      rw [itp ((eC _).mpr q1)]
      dsimp only
      rw [← hw]
      by_cases a : w 30 6 = 0
      · rw [itp a, itp a]
      · rw [itn a, itn a]
        by_cases b : zI P1 = 0
        · rw [itp b, itp b]
        · rw [itn b, itn b]
    · have r := scan_L hL hT hC.ec hτ.em
      rw [← hw] at r
      obtain ⟨⟨c, c0, c5, cw, cq⟩, -, r5, -, -, gM⟩ := r.2.2
      refine ⟨⟨in_ok, ⟨fun _ => trivial, fun _ => ⟨r.2.1, ⟨fun _ => trivial, fun _ => ⟨fun _ => trivial, fun _ => trivial⟩⟩⟩⟩⟩, ?_⟩
      refine qM (s' := (f_X6_reads τ).2) ?_ (gM.am hτ) (fun c hc => gM.1 c (by omega) (by omega) (by omega))
      unfold f_X6_fault
      rw [itn (fun c => (eM _).mp c q1)]
      dsimp only
      rw [cq, ← cw, ← r5]
      by_cases a : w 30 6 = 0
      · rw [itp a, itp a]
      · rw [itn a, itn a]
        by_cases b : zI P1 = 0
        · rw [itp b, itp b]
        · rw [itn b, itn b]
  · refine op_same hC hv hh hn hL hT (-1) ⟨out_ok, ⟨fun c => absurd ((eC _).mp c) q1, fun _ => trivial⟩⟩ (q_same ?_) (fun τ hτ => m_same hτ ⟨in_ok, ⟨fun _ => trivial, fun c => absurd ((eM _).mpr q1) c⟩⟩ ?_)
    · unfold f_X5_fault
      rw [itn (fun c => q1 ((eC _).mp c))]
    · unfold f_X6_fault
      rw [itp ((eM _).mpr q1)]
def nv (v : Nat → Int) (z : Nat → Int) (m : Nat) : Nat → Int := fun i => if 38 ≤ i ∧ i < 38 + m then z (i - 38) else v i
theorem AC.cor {σ σ' : Sg} {v : Nat → Int} {n : Nat} {hs : Nat → Nat → Int} {L : Nat} {tx z : Nat → Int} (h : AC σ v n hs L tx) (h1 : ∀ c, c ≠ 5 → σ' c = σ c) (h2 : ∀ k, k < 24 → σ' 5 k = zI (z k)) : AC σ' (nv v z 24) n hs L tx := by
  obtain ⟨a1, a2, ⟨o, ho, a3, a4⟩, a5, a6⟩ := h
  refine ⟨fun k hk => ?_, by rw [h1 6 (by omega)]; exact a2, ⟨o, ho, by rw [h1 6 (by omega)]; exact a3, fun j hj k hk => ?_⟩, by rw [h1 30 (by omega)]; exact a5, fun k hk => by rw [h1 31 (by omega)]; exact a6 k hk⟩
  · have e := a1 k hk
    unfold vw at e ⊢
    show _ = zI (if 38 ≤ k ∧ k < 38 + 24 then z (k - 38) else v k)
    by_cases q : 38 ≤ k
    · rw [if_neg (by omega), if_neg (by omega), if_neg (by omega), if_neg (by omega), if_pos ⟨q, by omega⟩]
      exact h2 (k - 38) (by omega)
    · rw [if_neg (show ¬ (38 ≤ k ∧ k < 38 + 24) by omega), ← e, h1 1 (by omega), h1 (1 + 1) (by omega), h1 (1 + 2) (by omega), h1 (1 + 3) (by omega)]
      split
      · rfl
      · split
        · rfl
        · split
          · rfl
          · split
            · rfl
            · omega
  · have lo := hb_lo o j
    rw [vw_same (fun c q1 q2 => h1 c (by omega)), a4 j hj k hk]
theorem load_M {v : Nat → Int} {m : Nat} {hs : Nat → Nat → Int} {L : Nat} {tx z : Nat → Int} : ∀ (n k : Nat) (τ : Sg), k ≤ 24 → 24 - k < n → AM τ (nv v z k) m hs L tx → (∀ t s : Nat, t < 3 → s < 8 → τ 40 (10 * t + s) = zI (z (8 * t + s))) →
    ok_X6_load_16 n (zI k) τ ∧ ∀ q : Int32 × Sg, q = f_X6_load_16 n (zI k) τ → q.1 = τ 34 17 ∧ AM q.2 (nv v z 24) m hs L tx ∧ ∀ c, c ≠ 35 → q.2 c = τ c := by
  intro n
  induction n with
  | zero => intro k τ h1 h2; omega
  | succ n ih =>
    intro k τ h1 h2 hA hz
    have e1 : ((24 : Int32) ≤ zI (k : Int)) ↔ (24 : Int) ≤ k := by rw [z_n]; exact z_le (by unfold zB; omega) (by unfold zB; omega)
    by_cases q : 24 ≤ k
    · refine ⟨⟨fun _ => trivial, fun c => absurd (e1.mpr (by omega)) c⟩, fun p e => ?_⟩
      have e' : p = (τ 34 17, τ) := by
        rw [e]
        show o_ite _ _ _ = _
        rw [itp (e1.mpr (by omega))]
      have k24 : k = 24 := by omega
      rw [k24] at hA
      rw [e']
      exact ⟨rfl, hA, fun _ _ => rfl⟩
    · have d8 : zI (k : Int) / 8 = zI ((k / 8 : Nat) : Int) := z_divn (b := 8) (by omega) (by omega) (by omega) (by omega)
      have m8 : zI (k : Int) - zI ((k / 8 : Nat) : Int) * 8 = zI ((k % 8 : Nat) : Int) := by
        have e : zI ((k / 8 : Nat) : Int) * 8 = zI (((k / 8 : Nat) : Int) * 8) := z_mul _ 8
        rw [e, z_sub]
        exact congrArg zI (by omega)
      have ei : (10 : Int32) * zI ((k / 8 : Nat) : Int) + zI ((k % 8 : Nat) : Int) = zI ((10 * (k / 8) + k % 8 : Nat) : Int) := by
        have e : (10 : Int32) * zI ((k / 8 : Nat) : Int) = zI (10 * ((k / 8 : Nat) : Int)) := z_mul 10 _
        rw [e, z_add]
        exact congrArg zI (by omega)
      have e38 : (38 : Int32) + zI (k : Int) = zI ((38 + k : Nat) : Int) := z_add 38 k
      have t1 : (zI ((38 + k : Nat) : Int)).toNatClampNeg = 38 + k := z_tn (by omega)
      have t2 : (zI ((10 * (k / 8) + k % 8 : Nat) : Int)).toNatClampNeg = 10 * (k / 8) + k % 8 := z_tn (by omega)
      have l : τ 40 (10 * (k / 8) + k % 8) = zI (z k) := by
        have r := hz (k / 8) (k % 8) (by omega) (by omega)
        rw [show 8 * (k / 8) + k % 8 = k by omega] at r
        exact r
      have u : AM (pu τ 35 (38 + k) (zI (z k))) (vu (nv v z k) (38 + k) (z k)) m hs L tx := hA.upd
      have uv : vu (nv v z k) (38 + k) (z k) = nv v z (k + 1) := by
        funext i
        show (if i = 38 + k then z k else if 38 ≤ i ∧ i < 38 + k then z (i - 38) else v i) = (if 38 ≤ i ∧ i < 38 + (k + 1) then z (i - 38) else v i)
        by_cases a : i = 38 + k
        · rw [if_pos a, if_pos (by omega), show i - 38 = k by omega]
        · rw [if_neg a]
          by_cases b : 38 ≤ i ∧ i < 38 + k
          · rw [if_pos b, if_pos (by omega)]
          · rw [if_neg b, if_neg (by omega)]
      rw [uv] at u
      have r := ih (k + 1) _ (by omega) (by omega) u (fun t s a b => by rw [pu_ne (by omega)]; exact hz t s a b)
      rw [← z_s] at r
      constructor
      · refine ⟨fun c => absurd (e1.mp c) (by omega), fun _ => ?_⟩
        dsimp only
        rw [d8, m8, ei, e38, t1, t2, l]
        exact ⟨z_in (by omega) (by omega) (by omega), z_in (by omega) (by omega) (by omega), r.1⟩
      · intro p e
        have e' : p = f_X6_load_16 n (zI k + 1) (pu τ 35 (38 + k) (zI (z k))) := by
          rw [e]
          show o_ite _ _ _ = _
          rw [itn (fun c => absurd (e1.mp c) (by omega))]
          dsimp only
          rw [d8, m8, ei, e38, t1, t2, l]
        obtain ⟨r1, r2, r3⟩ := r.2 p e'
        exact ⟨by rw [r1, pu_ne (by omega)], r2, fun c hc => by rw [r3 c hc, pu_ne hc]⟩
theorem nv_vs {v z : Nat → Int} {N : Int} (h : VS N v) (hz : ∀ k, k < 24 → -20 ≤ z k ∧ z k ≤ 20) : VS N (nv v z 24) := by
  rw [VS_iff] at h ⊢
  intro k hk
  show VK N k (if 38 ≤ k ∧ k < 38 + 24 then z (k - 38) else v k)
  by_cases q : 38 ≤ k
  · rw [if_pos ⟨q, by omega⟩]
    have := hz (k - 38) (by omega)
    unfold VK
    omega
  · rw [if_neg (by omega)]
    exact h k hk
theorem op_load (N : Int) : Op ok_X5_load f_X5_load ok_X6_load f_X6_load N := by
  refine Op.of fun σ v n hs L tx hC hv hh hn hL hT => ?_
  obtain ⟨τ0, h0⟩ := em_ex L tx
  have r0 := scan_L hL hT hC.ec h0
  have gC := r0.2.2.2.2.2.2.1
  obtain ⟨w, hw⟩ : ∃ w : Sg, w = f_X0_scan σ := ⟨_, rfl⟩
  rw [← hw] at gC
  have wA := gC.ac hC
  have R := fun (τ : Sg) (h : EM τ L tx) => by
    have r := scan_L hL hT hC.ec h
    rw [← hw] at r
    exact r
  by_cases a : w 30 6 = 0
  · have hkeep := keep_C wA hn hv.2.1
    obtain ⟨k1, k2⟩ := hkeep.2 _ rfl
    obtain ⟨u, hu⟩ : ∃ u : Sg, u = f_X2_keep w := ⟨_, rfl⟩
    rw [← hu] at k1 k2
    have cp := copy_C (a0 := 32) (a1 := 5) (σ := u) (by omega) rfl (by decide) (by omega)
    obtain ⟨c1, c2⟩ := cp.2 _ rfl
    obtain ⟨z, hz⟩ : ∃ z : Nat → Int, z = fun k => (w 32 k).toInt := ⟨_, rfl⟩
    have hzw : ∀ k, w 32 k = zI (z k) := fun k => by rw [hz]; exact z_of _
    have hzb : ∀ k, k < 24 → -20 ≤ z k ∧ z k ≤ 20 := fun k hk => by
      obtain ⟨y, y1, y2, y3, -⟩ := (R τ0 h0).2.2.2.2.2.1.2 (k / 8) (k % 8) (by omega) (by omega)
      rw [show 8 * (k / 8) + k % 8 = k by omega] at y3
      rw [hz]
      show -20 ≤ (w 32 k).toInt ∧ (w 32 k).toInt ≤ 20
      rw [y3, z_int (by unfold zB; omega)]
      omega
    have xA : AC (f_X5_copy 32 5 u) (nv v z 24) (pn n) (ph n hs v) L tx := k1.cor c1 (fun k hk => by rw [c2 k hk, k2 32 (Or.inr (by omega)), hzw])
    refine ⟨w 30 4, nv v z 24, pn n, ph n hs v, L, tx, ?_, qC (s' := f_X5_copy 32 5 u) ?_ xA (fun c hc => by rw [c1 c (by omega), k2 c (Or.inr (by omega)), gC.1 c (by omega) (by omega) (by omega)]), fun τ hτ => ?_, (nv_vs hv hzb).up (by omega), fun j hj => (ph_vs hv hh hn j hj).up (by omega), pn_le hn, hL, hT⟩
    · refine ⟨r0.1, ?_⟩
      dsimp only
      rw [← hw]
      refine ⟨fun _ => ⟨hkeep.1, ?_⟩, fun c => absurd a c⟩
      rw [← hu]
      exact ⟨cp.1, trivial⟩
    · unfold f_X5_load
      dsimp only
      rw [← hw, itp a, ← hu, c1 30 (by omega), k2 30 (Or.inr (by omega))]
    · have r := R τ hτ.em
      obtain ⟨⟨c, y0, y5, cw, cq⟩, r4, r5, rT, -, gM⟩ := r.2.2
      have q0 : (f_X6_reads τ).1 = 0 := by rw [cq, ← cw]; exact a
      obtain ⟨x, hx⟩ : ∃ x : Sg, x = (f_X6_reads τ).2 := ⟨_, rfl⟩
      rw [← hx] at r4 rT gM
      have xM := gM.am hτ
      have sv := saves_M xM hn
      obtain ⟨m1, m2, m3⟩ := sv.2 _ rfl
      obtain ⟨y, hy⟩ : ∃ y : Sg, y = f_X6_saves x := ⟨_, rfl⟩
      rw [← hy] at m1 m2 m3
      have nv0 : nv v z 0 = v := by
        funext i
        exact if_neg (by omega)
      have lm := load_M (v := v) (z := z) oF 0 y (by omega) (by rw [oF_eq]; omega) (by rw [nv0]; exact m1) (fun t s ht hs => by
        rw [m2 40 (by omega) (by omega)]
        obtain ⟨b, -, -, b3, b4⟩ := rT.2 t s ht hs
        rw [b4, ← b3, hzw])
      refine ⟨⟨r.2.1, ?_⟩, fun p e => ?_⟩
      · dsimp only
        rw [q0, ← hx]
        refine ⟨fun _ => ⟨sv.1, ?_⟩, fun c => absurd (by decide) c⟩
        rw [← hy]
        exact lm.1
      · have e' : p = f_X6_load_16 oF (zI ((0 : Nat) : Int)) y := by
          rw [e]
          unfold f_X6_load
          dsimp only
          rw [q0, itp (show (0 : Int32) ≤ 0 from by decide), ← hx, ← hy]
          rfl
        obtain ⟨p1, p2, p3⟩ := lm.2 p e'
        refine ⟨by rw [p1, m3 17 (by omega), r4], p2, fun c hc => by rw [p3 c (by omega), m2 c (by omega) (by omega), gM.1 c (by omega) (by omega) (by omega)]⟩
  · refine op_same hC hv hh hn hL hT (-2) ⟨r0.1, ?_⟩ (fun p e => q_fr2 (s' := w) ?_ gC p e) (fun τ hτ => ?_)
    · dsimp only
      rw [← hw]
      exact ⟨fun c => absurd c a, fun _ => trivial⟩
    · unfold f_X5_load
      dsimp only
      rw [← hw, itn a]
    · have r := R τ hτ.em
      obtain ⟨⟨c, y0, y5, cw, cq⟩, r4, r5, rT, -, gM⟩ := r.2.2
      have nz : ¬ ((f_X6_reads τ).1 ≤ 0) := by
        rw [cq, z_0, z_le (by unfold zB; omega) (by unfold zB; omega)]
        intro d
        have : c = 0 := by omega
        rw [this] at cw
        exact a cw
      refine ⟨⟨r.2.1, ⟨fun d => absurd d nz, fun _ => trivial⟩⟩, ?_⟩
      refine qM (s' := (f_X6_reads τ).2) ?_ (gM.am hτ) (fun c hc => gM.1 c (by omega) (by omega) (by omega))
      unfold f_X6_load
      dsimp only
      rw [itn nz]
