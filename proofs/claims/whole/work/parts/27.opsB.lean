set_option linter.all false
theorem zm9 : (-9 : Int32) = zI (-9) := by rw [z_n 9, z_neg]
theorem zm20 : (-20 : Int32) = zI (-20) := by rw [z_n 20, z_neg]
theorem zm31 : (-31 : Int32) = zI (-31) := by rw [z_n 31, z_neg]
theorem op_disk (p1 p2 p3 : Int32) (N : Int) : Op (ok_X5_disk p1 p2 p3) (f_X5_disk p1 p2 p3) (ok_X6_disk p1 p2 p3) (f_X6_disk p1 p2 p3) N := by
  obtain ⟨P1, hP1, rfl⟩ := zarg p1
  obtain ⟨P2, hP2, rfl⟩ := zarg p2
  obtain ⟨P3, hP3, rfl⟩ := zarg p3
  refine Op.of fun σ v n hs L tx hC hv hh hn hL hT => ?_
  have eC : ∀ s : Sg, (f_X5_isOutside (zI P3) (-9) 9 s = 0) ↔ (-9 ≤ P3 ∧ P3 ≤ 9) := fun s => by rw [zm9]; exact out_iff (b := -9) (c := 9) hP3 (by unfold zB; omega) (by unfold zB; omega)
  have eM : ∀ s : Sg, (f_X6_in (zI P3) (-9) 9 s = 0) ↔ ¬ (-9 ≤ P3 ∧ P3 ≤ 9) := fun s => by rw [zm9]; exact in_iff (b := -9) (c := 9) hP3 (by unfold zB; omega) (by unfold zB; omega)
  by_cases q1 : (0 ≤ P1 ∧ P1 ≤ 2) ∧ 0 ≤ P2 ∧ P2 ≤ 7
  · by_cases q : -9 ≤ P3 ∧ P3 ≤ 9
    · have hkeep := keep_C hC hn hv.2.1
      obtain ⟨t, rfl⟩ := Int.eq_ofNat_of_zero_le q1.1.1
      obtain ⟨s, rfl⟩ := Int.eq_ofNat_of_zero_le q1.2.1
      refine op_set hC hv hh hn hL hT (c := 3) (s := 8 * t + s) (k0 := 11 + (8 * t + s)) (z := P3) (d := v (11 + (8 * t + s)) + 100) (by omega) (by unfold VK; omega) ?_ ?_ ?_
      · exact ⟨ce_okC, ⟨fun _ => trivial, fun _ => ⟨out_ok, ⟨fun _ => ⟨hkeep.1, trivial, at_ok (by decide), trivial, put_ok (by decide), trivial⟩, fun _ => trivial⟩⟩⟩⟩
      · intro hk
        unfold f_X5_disk
        rw [itn (fun c => (ce_C hP1 hP2).mp c q1), itp ((eC _).mpr q)]
        dsimp only
        rw [cell_C, at_in (show 8 * t + s < o_len 3 by show _ < 24; omega) (by decide), put_in (show 8 * t + s < o_len 3 by show _ < 24; omega) (by decide)]
        refine ⟨?_, rfl⟩
        show f_X2_keep σ 3 (8 * t + s) + 100 = _
        rw [hk.nc.err (by omega)]
        exact z_add _ 100
      · intro τ hτ
        have hp := puts_M (k := 11 + (8 * t + s)) (x := zI P3) hτ hn (by omega)
        have ei : (11 + 8 * zI (t : Int)) + zI (s : Int) = zI ((11 + (8 * t + s) : Nat) : Int) := idxM (b := 11)
        refine ⟨⟨ce_okM, ⟨fun _ => trivial, fun _ => ⟨in_ok, ⟨fun _ => trivial, fun _ => ⟨by rw [ei]; exact hp.1, trivial⟩⟩⟩⟩⟩, fun hk => ?_⟩
        unfold f_X6_disk
        rw [itn (fun c => (ce_M hP1 hP2).mp c q1), itn (fun c => (eM _).mp c q), ei, hp.2]
        refine ⟨?_, rfl⟩
        show f_X6_saves τ 35 _ + 100 = _
        rw [hk.nm _ (by omega)]
        exact z_add _ 100
    · refine op_same hC hv hh hn hL hT (-1) ⟨ce_okC, ⟨fun _ => trivial, fun _ => ⟨out_ok, ⟨fun c => absurd ((eC _).mp c) q, fun _ => trivial⟩⟩⟩⟩ (q_same ?_) (fun τ hτ => m_same hτ ⟨ce_okM, ⟨fun _ => trivial, fun _ => ⟨in_ok, ⟨fun _ => trivial, fun c => absurd ((eM _).mpr q) c⟩⟩⟩⟩ ?_)
      · unfold f_X5_disk
        rw [itn (fun c => (ce_C hP1 hP2).mp c q1), itn (fun c => q ((eC _).mp c))]
      · unfold f_X6_disk
        rw [itn (fun c => (ce_M hP1 hP2).mp c q1), itp ((eM _).mpr q)]
  · refine op_same hC hv hh hn hL hT (-1) ⟨ce_okC, ⟨fun _ => trivial, fun c => absurd ((ce_C hP1 hP2).mpr q1) c⟩⟩ (q_same ?_) (fun τ hτ => m_same hτ ⟨ce_okM, ⟨fun _ => trivial, fun c => absurd ((ce_M hP1 hP2).mpr q1) c⟩⟩ ?_)
    · unfold f_X5_disk
      rw [itp ((ce_C hP1 hP2).mpr q1)]
    · unfold f_X6_disk
      rw [itp ((ce_M hP1 hP2).mpr q1)]
theorem op_correct (p1 p2 p3 : Int32) (N : Int) : Op (ok_X5_correct p1 p2 p3) (f_X5_correct p1 p2 p3) (ok_X6_correct p1 p2 p3) (f_X6_correct p1 p2 p3) N := by
  obtain ⟨P1, hP1, rfl⟩ := zarg p1
  obtain ⟨P2, hP2, rfl⟩ := zarg p2
  obtain ⟨P3, hP3, rfl⟩ := zarg p3
  refine Op.of fun σ v n hs L tx hC hv hh hn hL hT => ?_
  have eC : ∀ s : Sg, (f_X5_isOutside (zI P3) (-20) 20 s = 0) ↔ (-20 ≤ P3 ∧ P3 ≤ 20) := fun s => by rw [zm20]; exact out_iff (b := -20) (c := 20) hP3 (by unfold zB; omega) (by unfold zB; omega)
  have eM : ∀ s : Sg, (f_X6_isCorrection (zI P3) s = 0) ↔ ¬ (-20 ≤ P3 ∧ P3 ≤ 20) := fun s => by unfold f_X6_isCorrection; rw [zm20]; exact in_iff (b := -20) (c := 20) hP3 (by unfold zB; omega) (by unfold zB; omega)
  by_cases q1 : (0 ≤ P1 ∧ P1 ≤ 2) ∧ 0 ≤ P2 ∧ P2 ≤ 7
  · by_cases q : -20 ≤ P3 ∧ P3 ≤ 20
    · have hkeep := keep_C hC hn hv.2.1
      obtain ⟨t, rfl⟩ := Int.eq_ofNat_of_zero_le q1.1.1
      obtain ⟨s, rfl⟩ := Int.eq_ofNat_of_zero_le q1.2.1
      refine op_set hC hv hh hn hL hT (c := 5) (s := 8 * t + s) (k0 := 38 + (8 * t + s)) (z := P3) (d := v (38 + (8 * t + s)) + 100) (by omega) (by unfold VK; omega) ?_ ?_ ?_
      · exact ⟨ce_okC, ⟨fun _ => trivial, fun _ => ⟨out_ok, ⟨fun _ => ⟨hkeep.1, trivial, at_ok (by decide), trivial, put_ok (by decide), trivial⟩, fun _ => trivial⟩⟩⟩⟩
      · intro hk
        unfold f_X5_correct
        rw [itn (fun c => (ce_C hP1 hP2).mp c q1), itp ((eC _).mpr q)]
        dsimp only
        rw [cell_C, at_in (show 8 * t + s < o_len 5 by show _ < 24; omega) (by decide), put_in (show 8 * t + s < o_len 5 by show _ < 24; omega) (by decide)]
        refine ⟨?_, rfl⟩
        show f_X2_keep σ 5 (8 * t + s) + 100 = _
        rw [hk.nc.cor (by omega)]
        exact z_add _ 100
      · intro τ hτ
        have hp := puts_M (k := 38 + (8 * t + s)) (x := zI P3) hτ hn (by omega)
        have ei : (38 + 8 * zI (t : Int)) + zI (s : Int) = zI ((38 + (8 * t + s) : Nat) : Int) := idxM (b := 38)
        refine ⟨⟨ce_okM, ⟨fun _ => trivial, fun _ => ⟨⟨in_ok, (z_nb in_b).1, trivial⟩, ⟨fun _ => trivial, fun _ => ⟨by rw [ei]; exact hp.1, trivial⟩⟩⟩⟩⟩, fun hk => ?_⟩
        unfold f_X6_correct
        rw [itn (fun c => (ce_M hP1 hP2).mp c q1), itn (fun c => (eM _).mp c q), ei, hp.2]
        refine ⟨?_, rfl⟩
        show f_X6_saves τ 35 _ + 100 = _
        rw [hk.nm _ (by omega)]
        exact z_add _ 100
    · refine op_same hC hv hh hn hL hT (-1) ⟨ce_okC, ⟨fun _ => trivial, fun _ => ⟨out_ok, ⟨fun c => absurd ((eC _).mp c) q, fun _ => trivial⟩⟩⟩⟩ (q_same ?_) (fun τ hτ => m_same hτ ⟨ce_okM, ⟨fun _ => trivial, fun _ => ⟨⟨in_ok, (z_nb in_b).1, trivial⟩, ⟨fun _ => trivial, fun c => absurd ((eM _).mpr q) c⟩⟩⟩⟩ ?_)
      · unfold f_X5_correct
        rw [itn (fun c => (ce_C hP1 hP2).mp c q1), itn (fun c => q ((eC _).mp c))]
      · unfold f_X6_correct
        rw [itn (fun c => (ce_M hP1 hP2).mp c q1), itp ((eM _).mpr q)]
  · refine op_same hC hv hh hn hL hT (-1) ⟨ce_okC, ⟨fun _ => trivial, fun c => absurd ((ce_C hP1 hP2).mpr q1) c⟩⟩ (q_same ?_) (fun τ hτ => m_same hτ ⟨ce_okM, ⟨fun _ => trivial, fun c => absurd ((ce_M hP1 hP2).mpr q1) c⟩⟩ ?_)
    · unfold f_X5_correct
      rw [itp ((ce_C hP1 hP2).mpr q1)]
    · unfold f_X6_correct
      rw [itp ((ce_M hP1 hP2).mpr q1)]
theorem op_noise (p1 p2 : Int32) (N : Int) : Op (ok_X5_noise p1 p2) (f_X5_noise p1 p2) (ok_X6_noise p1 p2) (f_X6_noise p1 p2) N := by
  obtain ⟨P1, hP1, rfl⟩ := zarg p1
  obtain ⟨P3, hP3, rfl⟩ := zarg p2
  refine Op.of fun σ v n hs L tx hC hv hh hn hL hT => ?_
  have eC : ∀ s : Sg, (f_X5_isOutside (zI P3) (-9) 9 s = 0) ↔ (-9 ≤ P3 ∧ P3 ≤ 9) := fun s => by rw [zm9]; exact out_iff (b := -9) (c := 9) hP3 (by unfold zB; omega) (by unfold zB; omega)
  have eM : ∀ s : Sg, (f_X6_in (zI P3) (-9) 9 s = 0) ↔ ¬ (-9 ≤ P3 ∧ P3 ≤ 9) := fun s => by rw [zm9]; exact in_iff (b := -9) (c := 9) hP3 (by unfold zB; omega) (by unfold zB; omega)
  by_cases q1 : 0 ≤ P1 ∧ P1 ≤ 2
  · by_cases q : -9 ≤ P3 ∧ P3 ≤ 9
    · have hkeep := keep_C hC hn hv.2.1
      obtain ⟨t, rfl⟩ := Int.eq_ofNat_of_zero_le q1.1
      refine op_set hC hv hh hn hL hT (c := 4) (s := t) (k0 := 35 + t) (z := P3) (d := v (35 + t) + 100) (by omega) (by unfold VK; omega) ?_ ?_ ?_
      · exact ⟨tr_okC, ⟨fun _ => trivial, fun _ => ⟨out_ok, ⟨fun _ => ⟨hkeep.1, at_ok (by decide), put_ok (by decide), trivial⟩, fun _ => trivial⟩⟩⟩⟩
      · intro hk
        unfold f_X5_noise
        rw [itn (fun c => (tr_C hP1).mp c q1), itp ((eC _).mpr q)]
        dsimp only
        rw [at_in (show t < o_len 4 by show _ < 3; omega) (by decide), put_in (show t < o_len 4 by show _ < 3; omega) (by decide)]
        refine ⟨?_, rfl⟩
        show f_X2_keep σ 4 t + 100 = _
        rw [hk.nc.noi (by omega)]
        exact z_add _ 100
      · intro τ hτ
        have hp := puts_M (k := 35 + t) (x := zI P3) hτ hn (by omega)
        have ei : 35 + zI (t : Int) = zI ((35 + t : Nat) : Int) := z_add 35 t
        refine ⟨⟨tr_okM, ⟨fun _ => trivial, fun _ => ⟨in_ok, ⟨fun _ => trivial, fun _ => ⟨by rw [ei]; exact hp.1, trivial⟩⟩⟩⟩⟩, fun hk => ?_⟩
        unfold f_X6_noise
        rw [itn (fun c => (tr_M hP1).mp c q1), itn (fun c => (eM _).mp c q), ei, hp.2]
        refine ⟨?_, rfl⟩
        show f_X6_saves τ 35 _ + 100 = _
        rw [hk.nm _ (by omega)]
        exact z_add _ 100
    · refine op_same hC hv hh hn hL hT (-1) ⟨tr_okC, ⟨fun _ => trivial, fun _ => ⟨out_ok, ⟨fun c => absurd ((eC _).mp c) q, fun _ => trivial⟩⟩⟩⟩ (q_same ?_) (fun τ hτ => m_same hτ ⟨tr_okM, ⟨fun _ => trivial, fun _ => ⟨in_ok, ⟨fun _ => trivial, fun c => absurd ((eM _).mpr q) c⟩⟩⟩⟩ ?_)
      · unfold f_X5_noise
        rw [itn (fun c => (tr_C hP1).mp c q1), itn (fun c => q ((eC _).mp c))]
      · unfold f_X6_noise
        rw [itn (fun c => (tr_M hP1).mp c q1), itp ((eM _).mpr q)]
  · refine op_same hC hv hh hn hL hT (-1) ⟨tr_okC, ⟨fun _ => trivial, fun c => absurd ((tr_C hP1).mpr q1) c⟩⟩ (q_same ?_) (fun τ hτ => m_same hτ ⟨tr_okM, ⟨fun _ => trivial, fun c => absurd ((tr_M hP1).mpr q1) c⟩⟩ ?_)
    · unfold f_X5_noise
      rw [itp ((tr_C hP1).mpr q1)]
    · unfold f_X6_noise
      rw [itp ((tr_M hP1).mpr q1)]
theorem op_correction (p1 p2 : Int32) (N : Int) : Op (ok_X5_correction p1 p2) (fun σ => (f_X5_correction p1 p2 σ, σ)) (ok_X6_correction p1 p2) (fun σ => (f_X6_correction p1 p2 σ, σ)) N := by
  obtain ⟨P1, hP1, rfl⟩ := zarg p1
  obtain ⟨P2, hP2, rfl⟩ := zarg p2
  refine Op.of fun σ v n hs L tx hC hv hh hn hL hT => ?_
  by_cases q1 : (0 ≤ P1 ∧ P1 ≤ 2) ∧ 0 ≤ P2 ∧ P2 ≤ 7
  · obtain ⟨t, rfl⟩ := Int.eq_ofNat_of_zero_le q1.1.1
    obtain ⟨s, rfl⟩ := Int.eq_ofNat_of_zero_le q1.2.1
    have ei : (38 + 8 * zI (t : Int)) + zI (s : Int) = zI ((38 + (8 * t + s) : Nat) : Int) := idxM (b := 38)
    refine op_same hC hv hh hn hL hT (zI (v (38 + (8 * t + s)) + 100)) ⟨ce_okC, ⟨fun _ => trivial, fun _ => ⟨trivial, at_ok (by decide), trivial⟩⟩⟩ (q_same ?_) (fun τ hτ => m_same hτ ⟨ce_okM, ⟨fun _ => trivial, fun _ => ⟨by rw [ei]; exact z_in (by omega) (by omega) (by omega), trivial⟩⟩⟩ ?_)
    · unfold f_X5_correction
      rw [itn (fun c => (ce_C hP1 hP2).mp c q1), cell_C, at_in (show 8 * t + s < o_len 5 by show _ < 24; omega) (by decide)]
      show (σ 5 (8 * t + s) + 100, σ) = _
      rw [hC.nc.cor (by omega)]
      exact congrArg (fun x => (x, σ)) (z_add _ 100)
    · unfold f_X6_correction
      rw [itn (fun c => (ce_M hP1 hP2).mp c q1), ei, z_tn (by omega), hτ.nm _ (by omega)]
      exact congrArg (fun x => (x, τ)) (z_add _ 100)
  · refine op_same hC hv hh hn hL hT (-1) ⟨ce_okC, ⟨fun _ => trivial, fun c => absurd ((ce_C hP1 hP2).mpr q1) c⟩⟩ (q_same ?_) (fun τ hτ => m_same hτ ⟨ce_okM, ⟨fun _ => trivial, fun c => absurd ((ce_M hP1 hP2).mpr q1) c⟩⟩ ?_)
    · unfold f_X5_correction
      rw [itp ((ce_C hP1 hP2).mpr q1)]
    · unfold f_X6_correction
      rw [itp ((ce_M hP1 hP2).mpr q1)]
theorem op_reading (p1 : Int32) (N : Int) : Op (ok_X5_reading p1) (fun σ => (f_X5_reading p1 σ, σ)) (ok_X6_reading p1) (fun σ => (f_X6_reading p1 σ, σ)) N := by
  obtain ⟨P1, hP1, rfl⟩ := zarg p1
  refine Op.of fun σ v n hs L tx hC hv hh hn hL hT => ?_
  by_cases q1 : 0 ≤ P1 ∧ P1 ≤ 2
  · obtain ⟨t, rfl⟩ := Int.eq_ofNat_of_zero_le q1.1
    have a1 := ang_C hC.nc hv.1
    have r1 := rd_C (t := t) hC.nc hv (by omega) (aAng_b v)
    refine op_same hC hv hh hn hL hT (zI (aRd v t (aAng v))) ⟨tr_okC, ⟨fun _ => trivial, fun _ => ⟨a1.1, by rw [a1.2]; exact r1.1, trivial⟩⟩⟩ (q_same ?_) (fun τ hτ => ?_)
    · unfold f_X5_reading
      rw [itn (fun c => (tr_C hP1).mp c q1), a1.2, r1.2]
    · have a2 := ang_M hτ.nm hv.1
      have r2 := rd_M (t := t) hτ.nm hv (by omega) (aAng_b v)
      refine m_same hτ ⟨tr_okM, ⟨fun _ => trivial, fun _ => ⟨trivial, by rw [a2]; exact r2.1, trivial⟩⟩⟩ ?_
      unfold f_X6_reading
      rw [itn (fun c => (tr_M hP1).mp c q1), a2, r2.2]
  · refine op_same hC hv hh hn hL hT (-1) ⟨tr_okC, ⟨fun _ => trivial, fun c => absurd ((tr_C hP1).mpr q1) c⟩⟩ (q_same ?_) (fun τ hτ => m_same hτ ⟨tr_okM, ⟨fun _ => trivial, fun c => absurd ((tr_M hP1).mpr q1) c⟩⟩ ?_)
    · unfold f_X5_reading
      rw [itp ((tr_C hP1).mpr q1)]
    · unfold f_X6_reading
      rw [itp ((tr_M hP1).mpr q1)]
theorem op_apart (N : Int) : Op ok_X5_apart (fun σ => (f_X5_apart σ, σ)) ok_X6_apart (fun σ => (f_X6_apart σ, σ)) N := by
  refine Op.of fun σ v n hs L tx hC hv hh hn hL hT => ?_
  have v5 := hv.2.2.2.2.2.1
  have v0 := hv.1
  have e1 : (zI (v 5) = -1) ↔ v 5 = -1 := by rw [z_m1]; exact z_eq (by unfold zB; omega) (by unfold zB; omega)
  by_cases q : v 5 = -1
  · refine op_same hC hv hh hn hL hT (-4) ⟨fun _ => trivial, fun c => absurd (by rw [hC.nc.s5]; exact e1.mpr q) c⟩ (q_same ?_) (fun τ hτ => m_same hτ ⟨fun _ => trivial, fun c => absurd (by rw [hτ.nm 5 (by omega)]; exact e1.mpr q) c⟩ ?_)
    · unfold f_X5_apart
      rw [hC.nc.s5, itp (e1.mpr q)]
    · unfold f_X6_apart
      rw [hτ.nm 5 (by omega), itp (e1.mpr q)]
  · refine op_same hC hv hh hn hL hT (zI (dist 65280 (v 5) (v 0))) ⟨fun _ => trivial, fun _ => ⟨dis_ok, trivial⟩⟩ (q_same ?_) (fun τ hτ => m_same hτ ⟨fun _ => trivial, fun _ => ⟨off_ok (by decide), trivial⟩⟩ ?_)
    · unfold f_X5_apart
      rw [hC.nc.s5, hC.nc.s0, itn (fun c => q (e1.mp c))]
      exact congrArg (fun x => (x, σ)) (dis_C (L := 65280) (by unfold zB; omega) (by unfold zB; omega) (by omega) (by omega))
    · unfold f_X6_apart
      rw [hτ.nm 5 (by omega), hτ.nm 0 (by omega), itn (fun c => q (e1.mp c))]
      exact congrArg (fun x => (x, τ)) (off_M (L := 65280) (by unfold zB; omega) (by omega) (by omega))
