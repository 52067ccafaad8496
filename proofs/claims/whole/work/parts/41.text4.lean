set_option linter.all false
def Tb (σ τ : Sg) : Prop := (∀ t s : Nat, t < 3 → s < 8 → (σ 33 (8 * t + s) = 0 ∧ τ 39 (10 * t + s) = 0) ∨ (σ 33 (8 * t + s) = 1 ∧ τ 39 (10 * t + s) = 1)) ∧ ∀ t s : Nat, t < 3 → s < 8 → ∃ z : Int, -20 ≤ z ∧ z ≤ 20 ∧ σ 32 (8 * t + s) = zI z ∧ τ 40 (10 * t + s) = zI z
def Rl (σ τ : Sg) (L : Nat) (tx : Nat → Int) (i : Nat) : Prop := EC σ L tx ∧ EM τ L tx ∧ σ 30 4 = τ 34 17 ∧ σ 30 5 = zI i ∧ τ 34 10 = zI i ∧ i ≤ L ∧ Tb σ τ
def fC3 (σ σ' : Sg) : Prop := (∀ c, c ≠ 30 → c ≠ 32 → c ≠ 33 → σ' c = σ c) ∧ σ' 30 1 = σ 30 1
def fM3 (τ τ' : Sg) : Prop := (∀ c, c ≠ 34 → c ≠ 39 → c ≠ 40 → τ' c = τ c) ∧ ∀ k, k ∉ [10, 11, 12, 13, 14, 17] → τ' 34 k = τ 34 k
theorem fC3.tr {a b c : Sg} (h : fC3 a b) (g : fC3 b c) : fC3 a c := ⟨fun k x y z => (g.1 k x y z).trans (h.1 k x y z), g.2.trans h.2⟩
theorem fM3.tr {a b c : Sg} (h : fM3 a b) (g : fM3 b c) : fM3 a c := ⟨fun k x y z => (g.1 k x y z).trans (h.1 k x y z), fun k hk => (g.2 k hk).trans (h.2 k hk)⟩
theorem fC3.ec {σ σ' : Sg} {L : Nat} {tx : Nat → Int} (h : fC3 σ σ') (hE : EC σ L tx) : EC σ' L tx := hE.fr h.2 (h.1 31 (by omega) (by omega) (by omega))
theorem fM3.em {σ σ' : Sg} {L : Nat} {tx : Nat → Int} (h : fM3 σ σ') (hE : EM σ L tx) : EM σ' L tx := hE.fr (h.2 4 (by decide)) (h.1 37 (by omega) (by omega) (by omega))
def Ot (σ τ σ' : Sg) (q : Int32 × Sg) : Prop := (∃ c : Int, 0 ≤ c ∧ c ≤ 5 ∧ σ' 30 6 = zI c ∧ q.1 = zI c) ∧ σ' 30 4 = q.2 34 17 ∧ σ' 30 5 = q.2 34 10 ∧ Tb σ' q.2 ∧ fC3 σ σ' ∧ fM3 τ q.2
theorem eX_c {σ : Sg} {L : Nat} {tx : Nat → Int} {i : Nat} : (eX σ L tx i = 0 ∧ eT L tx i ≤ 2 ∧ eT L tx (i + 1) ≤ 7 ∧ eN L tx i ≤ 20 ∧ ¬ σ 39 (10 * eT L tx i + eT L tx (i + 1)) = 1) ∨ (¬ eX σ L tx i = 0 ∧ ∃ c : Int, 2 ≤ c ∧ c ≤ 5 ∧ eX σ L tx i = zI c) := by
  unfold eX
  split
  · exact Or.inr ⟨by decide, 2, by omega, by omega, rfl⟩
  · split
    · exact Or.inr ⟨by decide, 3, by omega, by omega, rfl⟩
    · split
      · exact Or.inr ⟨by decide, 4, by omega, by omega, rfl⟩
      · split
        · exact Or.inr ⟨by decide, 5, by omega, by omega, rfl⟩
        · rename_i a b c d
          exact Or.inl ⟨rfl, by omega, by omega, by omega, d⟩
theorem lock {L : Nat} {tx : Nat → Int} (hL : L ≤ 60) (hT : TX L tx) : ∀ (n i : Nat) (σ τ : Sg), Rl σ τ L tx i → σ 30 6 = 0 → L - i + 1 < n → ok_X0_scan_47 n σ ∧ ok_X6_reads_38 n τ ∧ Ot σ τ (f_X0_scan_47 n σ) (f_X6_reads_38 n τ) := by
  intro n
  induction n with
  | zero => intro i σ τ h h6 hn; omega
  | succ n ih =>
    intro i σ τ h h6 hn
    obtain ⟨hC, hM, h4, h5, h10, hi, hTb⟩ := h
    have e1 : (σ 30 1 ≤ σ 30 5) ↔ L ≤ i := by
      rw [hC.1, h5, z_le (by unfold zB; omega) (by unfold zB; omega)]
      omega
    have e2 : (τ 34 4 ≤ τ 34 10) ↔ L ≤ i := by
      rw [hM.1, h10, z_le (by unfold zB; omega) (by unfold zB; omega)]
      omega
    by_cases q : L ≤ i
    · have eC : f_X0_scan_47 (n + 1) σ = σ := by
        show o_ite _ _ _ = _
        rw [itp (e1.mpr q)]
      have eM : f_X6_reads_38 (n + 1) τ = (0, τ) := by
        show o_ite _ _ _ = _
        rw [itp (e2.mpr q)]
      refine ⟨⟨fun _ => trivial, fun c => absurd (e1.mpr q) c⟩, ⟨fun _ => trivial, fun c => absurd (e2.mpr q) c⟩, ?_⟩
      rw [eC, eM]
      exact ⟨⟨0, by omega, by omega, h6, rfl⟩, h4, h5.trans h10.symm, hTb, ⟨fun _ _ _ _ => rfl, rfl⟩, ⟨fun _ _ _ _ => rfl, fun _ _ => rfl⟩⟩
    · have ef := ef_C hC hL hT (show i ≤ 60 by omega)
      have en := en_M hM hL hT (show i ≤ 60 by omega) h10
      -- a fault
      have F : ∀ (c : Int) (w : Sg), 1 ≤ c → c ≤ 5 → f_X0_entryFault (zI i) σ = zI c → f_X6_entry τ = (zI c, w) → fr 34 [11, 12, 13, 14] τ w → ok_X0_scan_47 (n + 1) σ ∧ ok_X6_reads_38 (n + 1) τ ∧ Ot σ τ (f_X0_scan_47 (n + 1) σ) (f_X6_reads_38 (n + 1) τ) := fun c w c1 c5 fc fm wf => by
        obtain ⟨m, rfl⟩ : ∃ m, n = m + 1 := ⟨n - 1, by omega⟩
        obtain ⟨u, hu⟩ : ∃ u : Sg, u = pu σ 30 6 (zI c) := ⟨_, rfl⟩
        have u6 : u 30 6 = zI c := by rw [hu, pu_at]
        have z0 : ¬ (zI c = 0) := by rw [z_0, z_eq (by unfold zB; omega) (by unfold zB; omega)]; omega
        have zl : ¬ (zI c ≤ 0) := by rw [z_0, z_le (by unfold zB; omega) (by unfold zB; omega)]; omega
        have u1 : u 30 1 = σ 30 1 := by rw [hu, pu_un (by omega)]
        have u5 : u 30 5 = σ 30 5 := by rw [hu, pu_un (by omega)]
        have eC : f_X0_scan_47 (m + 1 + 1) σ = u := by
          show o_ite _ _ (o_ite _ _ _) = _
          rw [itn (fun d => q (e1.mp d)), itp h6, h5, fc]
          dsimp only
          rw [← hu, u6, itn z0]
          show o_ite _ _ (o_ite _ _ _) = _
          rw [u1, u5, itn (fun d => q (e1.mp d)), u6, itn z0]
        have eM : f_X6_reads_38 (m + 1 + 1) τ = (zI c, w) := by
          show o_ite _ _ _ = _
          rw [itn (fun d => q (e2.mp d)), fm]
          dsimp only
          rw [itn zl]
        refine ⟨⟨fun d => absurd (e1.mp d) q, fun _ => ⟨fun _ => ?_, fun d => absurd h6 d⟩⟩, ⟨fun d => absurd (e2.mp d) q, fun _ => ⟨en.1, ?_⟩⟩, ?_⟩
        · rw [h5]
          refine ⟨ef.1, ?_⟩
          dsimp only
          rw [fc, ← hu]
          refine ⟨fun d => absurd (by rw [← u6]; exact d) z0, fun _ => ?_⟩
          exact ⟨fun _ => trivial, fun _ => ⟨fun d => absurd (by rw [← u6]; exact d) z0, fun _ => trivial⟩⟩
        · rw [fm]
          exact ⟨fun d => absurd d zl, fun _ => trivial⟩
        · rw [eC, eM]
          refine ⟨⟨c, by omega, c5, u6, rfl⟩, ?_, ?_, ?_, ⟨fun k a b d => by rw [hu, pu_ne a], u1⟩, ⟨fun k a b d => wf.1 k a, fun k hk => wf.2 k (fun d => hk (by
            have : ∀ k, k ∈ [11, 12, 13, 14] → k ∈ [10, 11, 12, 13, 14, 17] := by decide
            exact this k d))⟩⟩
          · show u 30 4 = w 34 17
            rw [hu, pu_un (by omega), wf.2 17 (by decide)]
            exact h4
          · show u 30 5 = w 34 10
            rw [u5, wf.2 10 (by decide), h5, h10]
          · have a32 : u 32 = σ 32 := by rw [hu, pu_ne (by omega)]
            have a33 : u 33 = σ 33 := by rw [hu, pu_ne (by omega)]
            have a39 : w 39 = τ 39 := wf.1 39 (by omega)
            have a40 : w 40 = τ 40 := wf.1 40 (by omega)
            unfold Tb at hTb ⊢
            show (∀ t s : Nat, t < 3 → s < 8 → (u 33 (8 * t + s) = 0 ∧ w 39 (10 * t + s) = 0) ∨ (u 33 (8 * t + s) = 1 ∧ w 39 (10 * t + s) = 1)) ∧ ∀ t s : Nat, t < 3 → s < 8 → ∃ z : Int, -20 ≤ z ∧ z ≤ 20 ∧ u 32 (8 * t + s) = zI z ∧ w 40 (10 * t + s) = zI z
            rw [a32, a33, a39, a40]
            exact hTb
      by_cases ho : eOK L tx i
      · have be := eE_b L tx i
        have bn := eN_b ho
        have hx : f_X0_entryFault (zI i) σ = eX τ L tx i := by
          rw [ef.2.2 ho]
          unfold eX
          split
          · rfl
          · split
            · rfl
            · split
              · rfl
              · rcases hTb.1 (eT L tx i) (eT L tx (i + 1)) (by omega) (by omega) with ⟨a, b⟩ | ⟨a, b⟩
                · rw [if_pos a, if_neg (by rw [b]; decide)]
                · rw [if_neg (by rw [a]; decide), if_pos b]
        rcases eX_c (σ := τ) (L := L) (tx := tx) (i := i) with ⟨x0, xt, xs, xn, -⟩ | ⟨x0, c, c2, c5, xc⟩
        · obtain ⟨σ', s1, s2, s3, s4, s5, s6, s7, s8, s9⟩ := step_C (n := n) hC hL hT (by omega) h5 h6 ho xt xs (hx.trans x0)
          obtain ⟨τ', m1, m2, m3, m4, m5, m6, m7, m8⟩ := step_M (n := n) hM hL hT (by omega) h10 ho xt xs x0
          have gC : fC3 σ σ' := ⟨s7, s3⟩
          have gM : fM3 τ τ' := ⟨m5, m6⟩
          have le : eE L tx i < L := ch_lt (by rw [ho.2.2.2.2]; omega)
          have r := ih (eE L tx i + 1) σ' τ' ⟨gC.ec hC, gM.em hM, by rw [s4, m3, h4], s5, m4, by omega, fun t s ht hs => by
            rw [s9, m8]
            by_cases qa : t = eT L tx i ∧ s = eT L tx (i + 1)
            · obtain ⟨rfl, rfl⟩ := qa
              rw [if_pos rfl, if_pos rfl]
              exact Or.inr ⟨rfl, rfl⟩
            · rw [if_neg (by omega), if_neg (by omega)]
              exact hTb.1 t s ht hs, fun t s ht hs => by
            rw [s8, m7]
            by_cases qa : t = eT L tx i ∧ s = eT L tx (i + 1)
            · obtain ⟨rfl, rfl⟩ := qa
              rw [if_pos rfl, if_pos rfl]
              refine ⟨eZ L tx i, ?_, ?_, rfl, rfl⟩
              · unfold eZ; split <;> omega
              · unfold eZ; split <;> omega
            · rw [if_neg (by omega), if_neg (by omega)]
              exact hTb.2 t s ht hs⟩ s6 (by omega)
          refine ⟨s2 r.1, m2 r.2.1, ?_⟩
          rw [s1, m1]
          obtain ⟨a1, a2, a3, a4, a5, a6⟩ := r.2.2
          exact ⟨a1, a2, a3, a4, gC.tr a5, gM.tr a6⟩
        · obtain ⟨g0, g12, g13, g14, g11, gf⟩ := en.2.2 ho _ rfl
          exact F c (f_X6_entry τ).2 (by omega) c5 (hx.trans xc) (by rw [← xc, ← g0]) gf
      · exact F 1 τ (by omega) (by omega) (ef.2.1 ho) (en.2.1 ho) fr.rf
theorem clr_C : ∀ (n k : Nat) (σ : Sg), k ≤ 24 → 24 - k < n → ∃ σ' : Sg, f_X0_scan_2 n (zI k) σ = f_X0_scan_47 oF σ' ∧ (ok_X0_scan_47 oF σ' → ok_X0_scan_2 n (zI k) σ) ∧ fC3 σ σ' ∧ σ' 30 4 = 0 ∧ σ' 30 5 = 0 ∧ σ' 30 6 = 0 ∧ (∀ j, k ≤ j → j < 24 → σ' 32 j = 0 ∧ σ' 33 j = 0) ∧ ∀ j, j < k → σ' 32 j = σ 32 j ∧ σ' 33 j = σ 33 j := by
  intro n
  induction n with
  | zero => intro k σ h1 h2; omega
  | succ n ih =>
    intro k σ h1 h2
    have e1 : ((24 : Int32) ≤ zI (k : Int)) ↔ (24 : Int) ≤ k := by rw [z_n]; exact z_le (by unfold zB; omega) (by unfold zB; omega)
    by_cases q : 24 ≤ k
    · obtain ⟨y, hy⟩ : ∃ y : Sg, y = pu (pu (pu σ 30 4 0) 30 6 0) 30 5 0 := ⟨_, rfl⟩
      refine ⟨y, ?_, fun hok => ⟨fun _ => ?_, fun c => absurd (e1.mpr (by omega)) c⟩, ⟨fun c a b d => ?_, ?_⟩, ?_, ?_, ?_, fun j a b => by omega, fun j hj => ?_⟩
      · show o_ite _ _ _ = _
        rw [itp (e1.mpr (by omega)), hy]
      · dsimp only
        rw [← hy]
        exact hok
      · rw [hy, pu_ne a, pu_ne a, pu_ne a]
      · rw [hy, pu_un (by omega), pu_un (by omega), pu_un (by omega)]
      · rw [hy, pu_un (by omega), pu_un (by omega), pu_at]
      · rw [hy, pu_at]
      · rw [hy, pu_un (by omega), pu_at]
      · rw [hy, pu_ne (by omega), pu_ne (by omega), pu_ne (by omega)]
        exact ⟨rfl, by rw [pu_ne (by omega), pu_ne (by omega), pu_ne (by omega)]⟩
    · have p1 : f_X5_put 32 (zI k) 0 σ = pu σ 32 k 0 := put_in (show k < o_len 32 by show _ < 24; omega) (by decide)
      have p2 : f_X5_put 33 (zI k) 0 (pu σ 32 k 0) = pu (pu σ 32 k 0) 33 k 0 := put_in (show k < o_len 33 by show _ < 24; omega) (by decide)
      obtain ⟨σ', a1, a2, a3, a4, a5, a6, a7, a8⟩ := ih (k + 1) (pu (pu σ 32 k 0) 33 k 0) (by omega) (by omega)
      refine ⟨σ', ?_, fun hok => ⟨fun c => absurd (e1.mp c) (by omega), fun _ => ⟨put_ok (by decide), ?_⟩⟩, ⟨fun c a b d => ?_, ?_⟩, a4, a5, a6, fun j hj hj2 => ?_, fun j hj => ?_⟩
      · show o_ite _ _ _ = _
        rw [itn (fun c => absurd (e1.mp c) (by omega))]
        dsimp only
        rw [p1, p2, z_s]
        exact a1
      · dsimp only
        rw [p1]
        refine ⟨put_ok (by decide), ?_⟩
        rw [p2, z_s]
        exact a2 hok
      · rw [a3.1 c a b d, pu_ne d, pu_ne b]
      · rw [a3.2, pu_ne (by omega), pu_ne (by omega)]
      · by_cases qj : j = k
        · have r := a8 k (by omega)
          rw [qj]
          refine ⟨?_, ?_⟩
          · rw [r.1, pu_ne (by omega), pu_at]
          · rw [r.2, pu_at]
        · exact a7 j (by omega) hj2
      · have r := a8 j (by omega)
        refine ⟨?_, ?_⟩
        · rw [r.1, pu_ne (by omega), pu_un (by omega)]
        · rw [r.2, pu_un (by omega), pu_ne (by omega)]
theorem clr_M : ∀ (n k : Nat) (σ : Sg), k ≤ 30 → 30 - k < n → ∃ σ' : Sg, f_X6_reads_2 n (zI k) σ = f_X6_reads_38 oF σ' ∧ (ok_X6_reads_38 oF σ' → ok_X6_reads_2 n (zI k) σ) ∧ fM3 σ σ' ∧ σ' 34 17 = 0 ∧ σ' 34 10 = 0 ∧ (∀ j, k ≤ j → j < 30 → σ' 39 j = 0 ∧ σ' 40 j = 0) ∧ ∀ j, j < k → σ' 39 j = σ 39 j ∧ σ' 40 j = σ 40 j := by
  intro n
  induction n with
  | zero => intro k σ h1 h2; omega
  | succ n ih =>
    intro k σ h1 h2
    have e1 : ((30 : Int32) ≤ zI (k : Int)) ↔ (30 : Int) ≤ k := by rw [z_n]; exact z_le (by unfold zB; omega) (by unfold zB; omega)
    by_cases q : 30 ≤ k
    · obtain ⟨y, hy⟩ : ∃ y : Sg, y = pu (pu σ 34 10 0) 34 17 0 := ⟨_, rfl⟩
      refine ⟨y, ?_, fun hok => ⟨fun _ => ?_, fun c => absurd (e1.mpr (by omega)) c⟩, ⟨fun c a b d => ?_, fun j hj => ?_⟩, ?_, ?_, fun j a b => by omega, fun j hj => ?_⟩
      · show o_ite _ _ _ = _
        rw [itp (e1.mpr (by omega)), hy]
      · dsimp only
        rw [← hy]
        exact hok
      · rw [hy, pu_ne a, pu_ne a]
      · have k17 : j ≠ 17 := fun c => hj (by rw [c]; decide)
        have k10 : j ≠ 10 := fun c => hj (by rw [c]; decide)
        rw [hy, pu_un (by omega), pu_un (by omega)]
      · rw [hy, pu_at]
      · rw [hy, pu_un (by omega), pu_at]
      · rw [hy, pu_ne (by omega), pu_ne (by omega)]
        exact ⟨rfl, by rw [pu_ne (by omega), pu_ne (by omega)]⟩
    · have tk : (zI (k : Int)).toNatClampNeg = k := z_tn (by omega)
      have vk : vp_in (zI (k : Int)) 30 := z_in (by omega) (by omega) (by omega)
      obtain ⟨σ', a1, a2, a3, a4, a5, a7, a8⟩ := ih (k + 1) (pu (pu σ 39 k 0) 40 k 0) (by omega) (by omega)
      refine ⟨σ', ?_, fun hok => ⟨fun c => absurd (e1.mp c) (by omega), fun _ => ⟨vk, ?_⟩⟩, ⟨fun c a b d => ?_, fun j hj => ?_⟩, a4, a5, fun j hj hj2 => ?_, fun j hj => ?_⟩
      · show o_ite _ _ _ = _
        rw [itn (fun c => absurd (e1.mp c) (by omega))]
        dsimp only
        rw [tk, z_s]
        exact a1
      · dsimp only
        rw [tk, z_s]
        exact ⟨vk, a2 hok⟩
      · rw [a3.1 c a b d, pu_ne d, pu_ne b]
      · rw [a3.2 j hj, pu_ne (by omega), pu_ne (by omega)]
      · by_cases qj : j = k
        · have r := a8 k (by omega)
          rw [qj]
          refine ⟨?_, ?_⟩
          · rw [r.1, pu_ne (by omega), pu_at]
          · rw [r.2, pu_at]
        · exact a7 j (by omega) hj2
      · have r := a8 j (by omega)
        refine ⟨?_, ?_⟩
        · rw [r.1, pu_ne (by omega), pu_un (by omega)]
        · rw [r.2, pu_un (by omega), pu_ne (by omega)]
theorem scan_L {σ τ : Sg} {L : Nat} {tx : Nat → Int} (hL : L ≤ 60) (hT : TX L tx) (hC : EC σ L tx) (hM : EM τ L tx) : ok_X0_scan σ ∧ ok_X6_reads τ ∧ Ot σ τ (f_X0_scan σ) (f_X6_reads τ) := by
  obtain ⟨σ', a1, a2, a3, a4, a5, a6, a7, -⟩ := clr_C oF 0 σ (by omega) (by rw [oF_eq]; omega)
  obtain ⟨τ', b1, b2, b3, b4, b5, b7, -⟩ := clr_M oF 0 τ (by omega) (by rw [oF_eq]; omega)
  have r := lock hL hT oF 0 σ' τ' ⟨a3.ec hC, b3.em hM, by rw [a4, b4], a5, b5, by omega, fun t s ht hs => Or.inl ⟨(a7 _ (by omega) (by omega)).2, (b7 _ (by omega) (by omega)).1⟩, fun t s ht hs => ⟨0, by omega, by omega, (a7 _ (by omega) (by omega)).1, (b7 _ (by omega) (by omega)).2⟩⟩ a6 (by rw [oF_eq]; omega)
  refine ⟨a2 r.1, b2 r.2.1, ?_⟩
  have e1 : f_X0_scan σ = f_X0_scan_47 oF σ' := a1
  have e2 : f_X6_reads τ = f_X6_reads_38 oF τ' := b1
  rw [e1, e2]
  obtain ⟨c1, c2, c3, c4, c5, c6⟩ := r.2.2
  exact ⟨c1, c2, c3, c4, a3.tr c5, b3.tr c6⟩
theorem AC.ec {σ : Sg} {v : Nat → Int} {n : Nat} {hs : Nat → Nat → Int} {L : Nat} {tx : Nat → Int} (h : AC σ v n hs L tx) : EC σ L tx := h.2.2.2
theorem AM.em {σ : Sg} {v : Nat → Int} {n : Nat} {hs : Nat → Nat → Int} {L : Nat} {tx : Nat → Int} (h : AM σ v n hs L tx) : EM σ L tx := h.2.2.2
theorem em_ex (L : Nat) (tx : Nat → Int) : ∃ τ : Sg, EM τ L tx := ⟨fun c k => if c = 34 then zI L else zI (tx k), if_pos rfl, fun k hk => if_neg (by decide)⟩
