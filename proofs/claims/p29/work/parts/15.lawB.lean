set_option linter.all false
noncomputable def f_L_fits_505  (y0 : Int32) (y1 : Int32) (σ : Sg) : Int32 × Sg :=
  o_ite (y1 = y0) (
    (1, σ)) (
    (0, σ))
def ok_L_fits_505  (y0 : Int32) (y1 : Int32) (σ : Sg) : Prop :=
  ((y1 = y0) →
    True) ∧ (¬ (y1 = y0) →
    True)
noncomputable def f_L_fits_452  (x5 : Int32) (x6 : Int32) (x7 : Int32) (x8 : Int32) (x9 : Int32) (y0 : Int32) (σ : Sg) : Int32 × Sg :=
  o_ite (x5 = 0) (
    (0, σ)) (
    o_ite (x7 = x9) (
      let q3 := f_X5_look 1 σ
      o_ite (q3.1 = (f_L_byTable y0 1 σ)) (
        let q5 := f_X5_look 3 q3.2
        o_ite ((x8 / 510) = (x6 / 510)) (
          f_L_fits_505 2 (q5.1) q5.2) (
          f_L_fits_505 3 (q5.1) q5.2)) (
        (0, q3.2))) (
      (0, σ)))
def ok_L_fits_452  (x5 : Int32) (x6 : Int32) (x7 : Int32) (x8 : Int32) (x9 : Int32) (y0 : Int32) (σ : Sg) : Prop :=
  (ok_L_byTable y0 1 σ) ∧ (((x5 = 0) →
    True) ∧ (¬ (x5 = 0) →
    ((x7 = x9) →
      (ok_X5_look 1 σ) ∧ (let q3 := f_X5_look 1 σ
      ((q3.1 = (f_L_byTable y0 1 σ)) →
        (ok_X5_look 3 q3.2) ∧ (let q5 := f_X5_look 3 q3.2
        (((x8 / 510) = (x6 / 510)) →
          ok_L_fits_505 2 (q5.1) q5.2) ∧ (¬ ((x8 / 510) = (x6 / 510)) →
          ok_L_fits_505 3 (q5.1) q5.2))) ∧ (¬ (q3.1 = (f_L_byTable y0 1 σ)) →
        True))) ∧ (¬ (x7 = x9) →
      True)))
noncomputable def f_L_fits_419  (x5 : Int32) (x6 : Int32) (x7 : Int32) (x8 : Int32) (y0 : Int32) (σ : Sg) : Int32 × Sg :=
  o_ite ((x8 / 510) = (x6 / 510)) (
    f_L_fits_452 x5 x6 x7 x8 y0 (x6 / 510) σ) (
    f_L_fits_452 x5 x6 x7 x8 y0 (x8 / 510) σ)
def ok_L_fits_419  (x5 : Int32) (x6 : Int32) (x7 : Int32) (x8 : Int32) (y0 : Int32) (σ : Sg) : Prop :=
  (((x8 / 510) = (x6 / 510)) →
    ok_L_fits_452 x5 x6 x7 x8 y0 (x6 / 510) σ) ∧ (¬ ((x8 / 510) = (x6 / 510)) →
    ok_L_fits_452 x5 x6 x7 x8 y0 (x8 / 510) σ)
noncomputable def f_L_fits_373  (x6 : Int32) (x7 : Int32) (y0 : Int32) (σ : Sg) : Int32 × Sg :=
  o_ite (((f_L_byTable (x6 / 510) 0 σ) / 510) = (x6 / 510)) (
    f_L_fits_419 y0 x6 x7 (f_L_byTable (x6 / 510) 0 σ) (f_L_byTable (x6 / 510) 0 σ) σ) (
    let r3 := f_L_byTable ((f_L_byTable (x6 / 510) 0 σ) / 510) 0 σ
    f_L_fits_419 y0 x6 x7 (f_L_byTable (x6 / 510) 0 σ) r3 σ)
def ok_L_fits_373  (x6 : Int32) (x7 : Int32) (y0 : Int32) (σ : Sg) : Prop :=
  (ok_L_byTable (x6 / 510) 0 σ) ∧ (((((f_L_byTable (x6 / 510) 0 σ) / 510) = (x6 / 510)) →
    ok_L_fits_419 y0 x6 x7 (f_L_byTable (x6 / 510) 0 σ) (f_L_byTable (x6 / 510) 0 σ) σ) ∧ (¬ (((f_L_byTable (x6 / 510) 0 σ) / 510) = (x6 / 510)) →
    (ok_L_byTable ((f_L_byTable (x6 / 510) 0 σ) / 510) 0 σ) ∧ (let r3 := f_L_byTable ((f_L_byTable (x6 / 510) 0 σ) / 510) 0 σ
    ok_L_fits_419 y0 x6 x7 (f_L_byTable (x6 / 510) 0 σ) r3 σ)))
noncomputable def f_L_fits_372  (x6 : Int32) (x7 : Int32) (σ : Sg) : Int32 × Sg :=
  f_L_fits_373 x6 x7 0 σ
def ok_L_fits_372  (x6 : Int32) (x7 : Int32) (σ : Sg) : Prop :=
  ok_L_fits_373 x6 x7 0 σ
noncomputable def f_L_fits_365  (x6 : Int32) (x7 : Int32) (y0 : Int32) (y1 : Int32) (σ : Sg) : Int32 × Sg :=
  o_ite (y1 = y0) (
    f_L_fits_373 x6 x7 1 σ) (
    f_L_fits_372 x6 x7 σ)
def ok_L_fits_365  (x6 : Int32) (x7 : Int32) (y0 : Int32) (y1 : Int32) (σ : Sg) : Prop :=
  ((y1 = y0) →
    ok_L_fits_373 x6 x7 1 σ) ∧ (¬ (y1 = y0) →
    ok_L_fits_372 x6 x7 σ)
noncomputable def f_L_fits_305  (x2 : Int32) (x5 : Int32) (σ : Sg) : Int32 × Sg :=
  let q2 := f_X5_look 2 σ
  let q4 := f_X5_look 0 q2.2
  o_ite (x5 = 0) (
    f_L_fits_372 (q2.1) (q4.1) q4.2) (
    let r9 := f_X5_found (f_X5_reading 0 q4.2) (f_X5_reading 1 q4.2) (f_X5_reading 2 q4.2) 0 q4.2
    o_ite (q2.1 = r9) (
      let q11 := f_X5_look 4 q4.2
      o_ite (q4.1 = x2) (
        f_L_fits_365 (q2.1) (q4.1) 1 (q11.1) q11.2) (
        f_L_fits_365 (q2.1) (q4.1) 0 (q11.1) q11.2)) (
      f_L_fits_372 (q2.1) (q4.1) q4.2))
def ok_L_fits_305  (x2 : Int32) (x5 : Int32) (σ : Sg) : Prop :=
  (ok_X5_look 2 σ) ∧ (let q2 := f_X5_look 2 σ
  (ok_X5_look 0 q2.2) ∧ (let q4 := f_X5_look 0 q2.2
  ((x5 = 0) →
    ok_L_fits_372 (q2.1) (q4.1) q4.2) ∧ (¬ (x5 = 0) →
    (ok_X5_reading 0 q4.2) ∧ ((ok_X5_reading 1 q4.2) ∧ ((ok_X5_reading 2 q4.2) ∧ ((ok_X5_found (f_X5_reading 0 q4.2) (f_X5_reading 1 q4.2) (f_X5_reading 2 q4.2) 0 q4.2) ∧ (let r9 := f_X5_found (f_X5_reading 0 q4.2) (f_X5_reading 1 q4.2) (f_X5_reading 2 q4.2) 0 q4.2
    ((q2.1 = r9) →
      (ok_X5_look 4 q4.2) ∧ (let q11 := f_X5_look 4 q4.2
      ((q4.1 = x2) →
        ok_L_fits_365 (q2.1) (q4.1) 1 (q11.1) q11.2) ∧ (¬ (q4.1 = x2) →
        ok_L_fits_365 (q2.1) (q4.1) 0 (q11.1) q11.2))) ∧ (¬ (q2.1 = r9) →
      ok_L_fits_372 (q2.1) (q4.1) q4.2))))))))
noncomputable def f_L_fits_260  : Nat → Int32 → Int32 → Int32 → Sg → Int32 × Sg
  | 0 => fun _ _ _ σ => (0, σ)
  | n + 1 => fun x2 x5 x6 σ =>
    o_ite (3 ≤ x6) (
      f_L_fits_305 x2 x5 σ) (
      o_ite (x5 = 0) (
        f_L_fits_305 x2 x5 σ) (
        let r4 := f_L_near ((f_X5_reading x6 σ) - x2) (f_L_period x6 σ) σ
        o_ite (19 ≤ r4) (
          f_L_fits_260 n x2 0 (x6 + 1) σ) (
          f_L_fits_260 n x2 1 (x6 + 1) σ)))
def ok_L_fits_260  : Nat → Int32 → Int32 → Int32 → Sg → Prop
  | 0 => fun _ _ _ _ => False
  | n + 1 => fun x2 x5 x6 σ =>
    ((3 ≤ x6) →
      ok_L_fits_305 x2 x5 σ) ∧ (¬ (3 ≤ x6) →
      ((x5 = 0) →
        ok_L_fits_305 x2 x5 σ) ∧ (¬ (x5 = 0) →
        (ok_X5_reading x6 σ) ∧ ((ok_L_period x6 σ) ∧ ((ok_L_near ((f_X5_reading x6 σ) - x2) (f_L_period x6 σ) σ) ∧ (let r4 := f_L_near ((f_X5_reading x6 σ) - x2) (f_L_period x6 σ) σ
        ((19 ≤ r4) →
          ok_L_fits_260  n x2 0 (x6 + 1) σ) ∧ (¬ (19 ≤ r4) →
          ok_L_fits_260  n x2 1 (x6 + 1) σ))))))
noncomputable def f_L_fits_231  (x2 : Int32) (y0 : Int32) (y1 : Int32) (σ : Sg) : Int32 × Sg :=
  o_ite (y1 = y0) (
    o_ite ((f_X5_poor σ) < 0) (
      f_L_fits_260  oF x2 0 0 σ) (
      o_ite (9 ≤ (f_X5_poor σ)) (
        f_L_fits_260  oF x2 0 0 σ) (
        f_L_fits_260  oF x2 1 0 σ))) (
    f_L_fits_260  oF x2 0 0 σ)
def ok_L_fits_231  (x2 : Int32) (y0 : Int32) (y1 : Int32) (σ : Sg) : Prop :=
  ((y1 = y0) →
    (ok_X5_poor σ) ∧ ((((f_X5_poor σ) < 0) →
      ok_L_fits_260  oF x2 0 0 σ) ∧ (¬ ((f_X5_poor σ) < 0) →
      (ok_X5_poor σ) ∧ (((9 ≤ (f_X5_poor σ)) →
        ok_L_fits_260  oF x2 0 0 σ) ∧ (¬ (9 ≤ (f_X5_poor σ)) →
        ok_L_fits_260  oF x2 1 0 σ))))) ∧ (¬ (y1 = y0) →
    ok_L_fits_260  oF x2 0 0 σ)
noncomputable def f_L_fits_20  : Nat → Int32 → Int32 → Int32 → Int32 → Sg → Int32 × Sg
  | 0 => fun _ _ _ _ σ => (0, σ)
  | n + 1 => fun x1 x2 x3 x5 σ =>
    o_ite (24 ≤ x5) (
      o_ite (x1 < 0) (
        f_L_fits_260  oF x2 0 0 σ) (
        o_ite (65280 ≤ x1) (
          f_L_fits_260  oF x2 0 0 σ) (
          o_ite (x2 = (x1 - x1 / 4080 * 4080)) (
            o_ite ((f_X5_count 2 σ) < 0) (
              f_L_fits_260  oF x2 0 0 σ) (
              o_ite (64 ≤ (f_X5_count 2 σ)) (
                f_L_fits_260  oF x2 0 0 σ) (
                o_ite ((f_X5_count 4 σ) < 0) (
                  f_L_fits_260  oF x2 0 0 σ) (
                  o_ite (1000 ≤ (f_X5_count 4 σ)) (
                    f_L_fits_260  oF x2 0 0 σ) (
                    o_ite ((f_X5_count 5 σ) < 0) (
                      f_L_fits_260  oF x2 0 0 σ) (
                      o_ite (100 ≤ (f_X5_count 5 σ)) (
                        f_L_fits_260  oF x2 0 0 σ) (
                        let r10 := f_L_rest ((((x2 * 64) / 4080) + (f_X5_count 23 σ)) - 100) 64 σ
                        o_ite ((f_X5_count 8 σ) = r10) (
                          o_ite ((f_X5_count 9 σ) = x3) (
                            o_ite ((f_X5_count 6 σ) < (-4)) (
                              f_L_fits_260  oF x2 0 0 σ) (
                              o_ite (65280 ≤ (f_X5_count 6 σ)) (
                                f_L_fits_260  oF x2 0 0 σ) (
                                o_ite ((f_X5_count 6 σ) = (-4)) (
                                  f_L_fits_231 x2 (-4) (f_X5_apart σ) σ) (
                                  f_L_fits_231 x2 (f_L_near ((f_X5_count 6 σ) - x1) 65280 σ) (f_X5_apart σ) σ)))) (
                            f_L_fits_260  oF x2 0 0 σ)) (
                          f_L_fits_260  oF x2 0 0 σ)))))))) (
            f_L_fits_260  oF x2 0 0 σ)))) (
      o_ite ((f_X5_correction (x5 / 8) (x5 - x5 / 8 * 8) σ) = 100) (
        f_L_fits_20 n x1 x2 (x3 + 0) (x5 + 1) σ) (
        f_L_fits_20 n x1 x2 (x3 + 1) (x5 + 1) σ))
def ok_L_fits_20  : Nat → Int32 → Int32 → Int32 → Int32 → Sg → Prop
  | 0 => fun _ _ _ _ _ => False
  | n + 1 => fun x1 x2 x3 x5 σ =>
    ((24 ≤ x5) →
      ((x1 < 0) →
        ok_L_fits_260  oF x2 0 0 σ) ∧ (¬ (x1 < 0) →
        ((65280 ≤ x1) →
          ok_L_fits_260  oF x2 0 0 σ) ∧ (¬ (65280 ≤ x1) →
          ((x2 = (x1 - x1 / 4080 * 4080)) →
            (ok_X5_count 2 σ) ∧ ((((f_X5_count 2 σ) < 0) →
              ok_L_fits_260  oF x2 0 0 σ) ∧ (¬ ((f_X5_count 2 σ) < 0) →
              (ok_X5_count 2 σ) ∧ (((64 ≤ (f_X5_count 2 σ)) →
                ok_L_fits_260  oF x2 0 0 σ) ∧ (¬ (64 ≤ (f_X5_count 2 σ)) →
                (ok_X5_count 4 σ) ∧ ((((f_X5_count 4 σ) < 0) →
                  ok_L_fits_260  oF x2 0 0 σ) ∧ (¬ ((f_X5_count 4 σ) < 0) →
                  (ok_X5_count 4 σ) ∧ (((1000 ≤ (f_X5_count 4 σ)) →
                    ok_L_fits_260  oF x2 0 0 σ) ∧ (¬ (1000 ≤ (f_X5_count 4 σ)) →
                    (ok_X5_count 5 σ) ∧ ((((f_X5_count 5 σ) < 0) →
                      ok_L_fits_260  oF x2 0 0 σ) ∧ (¬ ((f_X5_count 5 σ) < 0) →
                      (ok_X5_count 5 σ) ∧ (((100 ≤ (f_X5_count 5 σ)) →
                        ok_L_fits_260  oF x2 0 0 σ) ∧ (¬ (100 ≤ (f_X5_count 5 σ)) →
                        (ok_X5_count 8 σ) ∧ ((ok_X5_count 23 σ) ∧ ((ok_L_rest ((((x2 * 64) / 4080) + (f_X5_count 23 σ)) - 100) 64 σ) ∧ (let r10 := f_L_rest ((((x2 * 64) / 4080) + (f_X5_count 23 σ)) - 100) 64 σ
                        (((f_X5_count 8 σ) = r10) →
                          (ok_X5_count 9 σ) ∧ ((((f_X5_count 9 σ) = x3) →
                            (ok_X5_count 6 σ) ∧ ((((f_X5_count 6 σ) < (-4)) →
                              ok_L_fits_260  oF x2 0 0 σ) ∧ (¬ ((f_X5_count 6 σ) < (-4)) →
                              (ok_X5_count 6 σ) ∧ (((65280 ≤ (f_X5_count 6 σ)) →
                                ok_L_fits_260  oF x2 0 0 σ) ∧ (¬ (65280 ≤ (f_X5_count 6 σ)) →
                                (ok_X5_apart σ) ∧ ((ok_X5_count 6 σ) ∧ ((((f_X5_count 6 σ) = (-4)) →
                                  ok_L_fits_231 x2 (-4) (f_X5_apart σ) σ) ∧ (¬ ((f_X5_count 6 σ) = (-4)) →
                                  (ok_X5_count 6 σ) ∧ ((ok_L_near ((f_X5_count 6 σ) - x1) 65280 σ) ∧ (ok_L_fits_231 x2 (f_L_near ((f_X5_count 6 σ) - x1) 65280 σ) (f_X5_apart σ) σ)))))))))) ∧ (¬ ((f_X5_count 9 σ) = x3) →
                            ok_L_fits_260  oF x2 0 0 σ))) ∧ (¬ ((f_X5_count 8 σ) = r10) →
                          ok_L_fits_260  oF x2 0 0 σ))))))))))))))))) ∧ (¬ (x2 = (x1 - x1 / 4080 * 4080)) →
            ok_L_fits_260  oF x2 0 0 σ)))) ∧ (¬ (24 ≤ x5) →
      (ok_X5_correction (x5 / 8) (x5 - x5 / 8 * 8) σ) ∧ ((((f_X5_correction (x5 / 8) (x5 - x5 / 8 * 8) σ) = 100) →
        ok_L_fits_20  n x1 x2 (x3 + 0) (x5 + 1) σ) ∧ (¬ ((f_X5_correction (x5 / 8) (x5 - x5 / 8 * 8) σ) = 100) →
        ok_L_fits_20  n x1 x2 (x3 + 1) (x5 + 1) σ)))
noncomputable def f_L_fits  (σ : Sg) : Int32 × Sg :=
  f_L_fits_20  oF (f_X5_count 0 σ) (f_X5_count 1 σ) 0 0 σ
def ok_L_fits  (σ : Sg) : Prop :=
  (ok_X5_count 0 σ) ∧ ((ok_X5_count 1 σ) ∧ (ok_L_fits_20  oF (f_X5_count 0 σ) (f_X5_count 1 σ) 0 0 σ))
set_option maxHeartbeats 4000000 in
set_option maxRecDepth 100000 in
theorem t_L_fits_505 {p : Program} {l : Launch} {e : Env} {s : State} {m : MethodId} {args : Array Value} {below : List Frame} {meth : Method} {c : Code} {G : Gt} {post : Int32 → Sg → Prop}   (hc : o_Cx p s m args meth c G cL_fits yL_fits.cls 11) (hr : meth.sig.returnType = (some .boolean)) {y0 : Int32} {y1 : Int32} {σ : Sg} (hok : ok_L_fits_505  y0 y1 σ) (hq : ∀ q : Int32 × Sg, q = f_L_fits_505  y0 y1 σ → post q.1 q.2) : o_V p l e { frames := 7, cells := 0, slots := 0, locals := 166 } s m args below meth c (MQ below (va_Qi post (fun σ' t => o_W G σ' t.heap) (o_A G)) args s 0 0 (o_A G)) G 0 0 11 σ 505 [] [.int y0, .int y1] := by
  refine r_icmp_ne (pc := 505) (tgt := 512) hc dL_fits_505 (by decide) (fun c505 => ?_) (fun c505 => ?_)
  · have hok := hok.2 c505
    have hq := o_qn hq c505
    refine r_iconst (pc := 512) (v := 0) hc dL_fits_512 rfl ?_
    exact r_iret hc hr rfl dL_fits_513 (hq (_, _) rfl)
  · have hok := hok.1 c505
    have hq := o_qp hq c505
    refine r_iconst (pc := 508) (v := 1) hc dL_fits_508 rfl ?_
    refine r_goto (pc := 509) (tgt := 513) hc dL_fits_509 (by decide) ?_
    exact r_iret hc hr rfl dL_fits_513 (hq (_, _) rfl)
set_option maxHeartbeats 4000000 in
set_option maxRecDepth 100000 in
theorem t_L_fits_452 {p : Program} {l : Launch} {e : Env} {s : State} {m : MethodId} {args : Array Value} {below : List Frame} {meth : Method} {c : Code} {G : Gt} {post : Int32 → Sg → Prop}   (hc : o_Cx p s m args meth c G cL_fits yL_fits.cls 11) (hr : meth.sig.returnType = (some .boolean)) {x5 : Int32} {x6 : Int32} {x7 : Int32} {x8 : Int32} {x9 : Int32} {y0 : Int32} {σ : Sg} (hok : ok_L_fits_452  x5 x6 x7 x8 x9 y0 σ) (hq : ∀ q : Int32 × Sg, q = f_L_fits_452  x5 x6 x7 x8 x9 y0 σ → post q.1 q.2) : o_V p l e { frames := 7, cells := 0, slots := 0, locals := 166 } s m args below meth c (MQ below (va_Qi post (fun σ' t => o_W G σ' t.heap) (o_A G)) args s 0 0 (o_A G)) G 0 0 11 σ 452 [(0, .ref (gAd G 0)), (5, .int x5), (6, .int x6), (7, .int x7), (8, .int x8), (9, .int x9)] [.int y0, .ref (gAd G 0)] := by
  refine r_iconst (pc := 452) (v := 1) hc dL_fits_452 rfl ?_
  obtain ⟨hs1, hok⟩ := hok
  refine r_callS_i (pc := 453) (as := [.ref (gAd G _), .int _, .int _]) hc (c_L_byTable l _ hs1) mS_L_byTable kM_L_101 ⟨Nat.le_of_ble_eq_true rfl, Nat.le_of_ble_eq_true rfl⟩ ⟨Nat.le_of_ble_eq_true rfl, Nat.le_of_ble_eq_true rfl⟩ rfl rfl (Nat.le_of_ble_eq_true rfl) dL_fits_453 (fun r σ' h => ?_)
  obtain ⟨rfl, rfl⟩ := h
  refine r_istore (pc := 456) (lv' := [(10, _), (0, _), (5, _), (6, _), (7, _), (8, _), (9, _)]) hc dL_fits_456 (by decide) rfl ?_
  refine r_iload (pc := 458) hc 2 dL_fits_458 rfl ?_
  refine r_if_eq (pc := 460) (tgt := 512) hc dL_fits_460 (by decide) (fun c460 => ?_) (fun c460 => ?_)
  · have hok := hok.1 c460
    have hq := o_qp hq c460
    refine r_iconst (pc := 512) (v := 0) hc dL_fits_512 rfl ?_
    exact r_iret hc hr rfl dL_fits_513 (hq (_, _) rfl)
  · have hok := hok.2 c460
    have hq := o_qn hq c460
    refine r_iload (pc := 463) hc 4 dL_fits_463 rfl ?_
    refine r_iload (pc := 465) hc 6 dL_fits_465 rfl ?_
    refine r_icmp_ne (pc := 467) (tgt := 512) hc dL_fits_467 (by decide) (fun c467 => ?_) (fun c467 => ?_)
    · have hok := hok.2 c467
      have hq := o_qn hq c467
      refine r_iconst (pc := 512) (v := 0) hc dL_fits_512 rfl ?_
      exact r_iret hc hr rfl dL_fits_513 (hq (_, _) rfl)
    · have hok := hok.1 c467
      have hq := o_qp hq c467
      refine r_aload_n (pc := 470) hc 1 dL_fits_470 rfl rfl ?_
      refine r_iconst (pc := 471) (v := 1) hc dL_fits_471 rfl ?_
      obtain ⟨hs2, hok⟩ := hok
      refine r_callV_i (pc := 472) (as := [.int _]) hc (c_X5_look l _ hs2) kk5 (o_lt hc (by decide)) rfl mV_X5_look kM_L_66 ⟨Nat.le_of_ble_eq_true rfl, Nat.le_of_ble_eq_true rfl⟩ ⟨Nat.le_of_ble_eq_true rfl, Nat.le_of_ble_eq_true rfl⟩ rfl rfl (Nat.le_of_ble_eq_true rfl) dL_fits_472 (fun r σ' h => ?_)
      obtain ⟨rfl, rfl⟩ := h
      refine r_iload (pc := 475) hc 0 dL_fits_475 rfl ?_
      refine r_icmp_ne (pc := 477) (tgt := 512) hc dL_fits_477 (by decide) (fun c477 => ?_) (fun c477 => ?_)
      · have hok := hok.2 c477
        have hq := o_qn hq c477
        refine r_iconst (pc := 512) (v := 0) hc dL_fits_512 rfl ?_
        exact r_iret hc hr rfl dL_fits_513 (hq (_, _) rfl)
      · have hok := hok.1 c477
        have hq := o_qp hq c477
        refine r_aload_n (pc := 480) hc 1 dL_fits_480 rfl rfl ?_
        refine r_iconst (pc := 481) (v := 3) hc dL_fits_481 rfl ?_
        obtain ⟨hs4, hok⟩ := hok
        refine r_callV_i (pc := 482) (as := [.int _]) hc (c_X5_look l _ hs4) kk5 (o_lt hc (by decide)) rfl mV_X5_look kM_L_66 ⟨Nat.le_of_ble_eq_true rfl, Nat.le_of_ble_eq_true rfl⟩ ⟨Nat.le_of_ble_eq_true rfl, Nat.le_of_ble_eq_true rfl⟩ rfl rfl (Nat.le_of_ble_eq_true rfl) dL_fits_482 (fun r σ' h => ?_)
        obtain ⟨rfl, rfl⟩ := h
        refine r_iload (pc := 485) hc 5 dL_fits_485 rfl ?_
        refine r_sipush (pc := 487) (v := 510) hc dL_fits_487 (by decide) ?_
        refine r_idiv (pc := 490) hc dL_fits_490 (by decide) ?_
        refine r_iload (pc := 491) hc 3 dL_fits_491 rfl ?_
        refine r_sipush (pc := 493) (v := 510) hc dL_fits_493 (by decide) ?_
        refine r_idiv (pc := 496) hc dL_fits_496 (by decide) ?_
        refine r_icmp_ne (pc := 497) (tgt := 504) hc dL_fits_497 (by decide) (fun c497 => ?_) (fun c497 => ?_)
        · have hok := hok.2 c497
          have hq := o_qn hq c497
          refine r_iconst (pc := 504) (v := 3) hc dL_fits_504 rfl ?_
          exact o_V.sub (t_L_fits_505  hc hr hok hq) [] rfl
        · have hok := hok.1 c497
          have hq := o_qp hq c497
          refine r_iconst (pc := 500) (v := 2) hc dL_fits_500 rfl ?_
          refine r_goto (pc := 501) (tgt := 505) hc dL_fits_501 (by decide) ?_
          exact o_V.sub (t_L_fits_505  hc hr hok hq) [] rfl
set_option maxHeartbeats 4000000 in
set_option maxRecDepth 100000 in
theorem t_L_fits_419 {p : Program} {l : Launch} {e : Env} {s : State} {m : MethodId} {args : Array Value} {below : List Frame} {meth : Method} {c : Code} {G : Gt} {post : Int32 → Sg → Prop}   (hc : o_Cx p s m args meth c G cL_fits yL_fits.cls 11) (hr : meth.sig.returnType = (some .boolean)) {x5 : Int32} {x6 : Int32} {x7 : Int32} {x8 : Int32} {y0 : Int32} {σ : Sg} (hok : ok_L_fits_419  x5 x6 x7 x8 y0 σ) (hq : ∀ q : Int32 × Sg, q = f_L_fits_419  x5 x6 x7 x8 y0 σ → post q.1 q.2) : o_V p l e { frames := 7, cells := 0, slots := 0, locals := 166 } s m args below meth c (MQ below (va_Qi post (fun σ' t => o_W G σ' t.heap) (o_A G)) args s 0 0 (o_A G)) G 0 0 11 σ 419 [(0, .ref (gAd G 0)), (5, .int x5), (6, .int x6), (7, .int x7), (8, .int x8)] [.int y0] := by
  refine r_istore (pc := 419) (lv' := [(9, _), (0, _), (5, _), (6, _), (7, _), (8, _)]) hc dL_fits_419 (by decide) rfl ?_
  refine r_aload_n (pc := 421) hc 1 dL_fits_421 rfl rfl ?_
  refine r_iload (pc := 422) hc 5 dL_fits_422 rfl ?_
  refine r_sipush (pc := 424) (v := 510) hc dL_fits_424 (by decide) ?_
  refine r_idiv (pc := 427) hc dL_fits_427 (by decide) ?_
  refine r_iload (pc := 428) hc 3 dL_fits_428 rfl ?_
  refine r_sipush (pc := 430) (v := 510) hc dL_fits_430 (by decide) ?_
  refine r_idiv (pc := 433) hc dL_fits_433 (by decide) ?_
  refine r_icmp_ne (pc := 434) (tgt := 446) hc dL_fits_434 (by decide) (fun c434 => ?_) (fun c434 => ?_)
  · have hok := hok.2 c434
    have hq := o_qn hq c434
    refine r_iload (pc := 446) hc 5 dL_fits_446 rfl ?_
    refine r_sipush (pc := 448) (v := 510) hc dL_fits_448 (by decide) ?_
    refine r_idiv (pc := 451) hc dL_fits_451 (by decide) ?_
    exact o_V.sub (t_L_fits_452  hc hr hok hq) [1, 2, 3, 4, 5, 0] rfl
  · have hok := hok.1 c434
    have hq := o_qp hq c434
    refine r_iload (pc := 437) hc 3 dL_fits_437 rfl ?_
    refine r_sipush (pc := 439) (v := 510) hc dL_fits_439 (by decide) ?_
    refine r_idiv (pc := 442) hc dL_fits_442 (by decide) ?_
    refine r_goto (pc := 443) (tgt := 452) hc dL_fits_443 (by decide) ?_
    exact o_V.sub (t_L_fits_452  hc hr hok hq) [1, 2, 3, 4, 5, 0] rfl
set_option maxHeartbeats 4000000 in
set_option maxRecDepth 100000 in
theorem t_L_fits_373 {p : Program} {l : Launch} {e : Env} {s : State} {m : MethodId} {args : Array Value} {below : List Frame} {meth : Method} {c : Code} {G : Gt} {post : Int32 → Sg → Prop}   (hc : o_Cx p s m args meth c G cL_fits yL_fits.cls 11) (hr : meth.sig.returnType = (some .boolean)) {x6 : Int32} {x7 : Int32} {y0 : Int32} {σ : Sg} (hok : ok_L_fits_373  x6 x7 y0 σ) (hq : ∀ q : Int32 × Sg, q = f_L_fits_373  x6 x7 y0 σ → post q.1 q.2) : o_V p l e { frames := 7, cells := 0, slots := 0, locals := 166 } s m args below meth c (MQ below (va_Qi post (fun σ' t => o_W G σ' t.heap) (o_A G)) args s 0 0 (o_A G)) G 0 0 11 σ 373 [(0, .ref (gAd G 0)), (6, .int x6), (7, .int x7)] [.int y0] := by
  refine r_istore (pc := 373) (lv' := [(5, _), (0, _), (6, _), (7, _)]) hc dL_fits_373 (by decide) rfl ?_
  refine r_aload_n (pc := 375) hc 1 dL_fits_375 rfl rfl ?_
  refine r_iload (pc := 376) hc 2 dL_fits_376 rfl ?_
  refine r_sipush (pc := 378) (v := 510) hc dL_fits_378 (by decide) ?_
  refine r_idiv (pc := 381) hc dL_fits_381 (by decide) ?_
  refine r_iconst (pc := 382) (v := 0) hc dL_fits_382 rfl ?_
  obtain ⟨hs1, hok⟩ := hok
  refine r_callS_i (pc := 383) (as := [.ref (gAd G _), .int _, .int _]) hc (c_L_byTable l _ hs1) mS_L_byTable kM_L_101 ⟨Nat.le_of_ble_eq_true rfl, Nat.le_of_ble_eq_true rfl⟩ ⟨Nat.le_of_ble_eq_true rfl, Nat.le_of_ble_eq_true rfl⟩ rfl rfl (Nat.le_of_ble_eq_true rfl) dL_fits_383 (fun r σ' h => ?_)
  obtain ⟨rfl, rfl⟩ := h
  refine r_istore (pc := 386) (lv' := [(8, _), (5, _), (0, _), (6, _), (7, _)]) hc dL_fits_386 (by decide) rfl ?_
  refine r_iload (pc := 388) hc 0 dL_fits_388 rfl ?_
  refine r_sipush (pc := 390) (v := 510) hc dL_fits_390 (by decide) ?_
  refine r_idiv (pc := 393) hc dL_fits_393 (by decide) ?_
  refine r_iload (pc := 394) hc 3 dL_fits_394 rfl ?_
  refine r_sipush (pc := 396) (v := 510) hc dL_fits_396 (by decide) ?_
  refine r_idiv (pc := 399) hc dL_fits_399 (by decide) ?_
  refine r_icmp_ne (pc := 400) (tgt := 408) hc dL_fits_400 (by decide) (fun c400 => ?_) (fun c400 => ?_)
  · have hok := hok.2 c400
    have hq := o_qn hq c400
    refine r_aload_n (pc := 408) hc 2 dL_fits_408 rfl rfl ?_
    refine r_iload (pc := 409) hc 0 dL_fits_409 rfl ?_
    refine r_sipush (pc := 411) (v := 510) hc dL_fits_411 (by decide) ?_
    refine r_idiv (pc := 414) hc dL_fits_414 (by decide) ?_
    refine r_iconst (pc := 415) (v := 0) hc dL_fits_415 rfl ?_
    obtain ⟨hs2, hok⟩ := hok
    refine r_callS_i (pc := 416) (as := [.ref (gAd G _), .int _, .int _]) hc (c_L_byTable l _ hs2) mS_L_byTable kM_L_101 ⟨Nat.le_of_ble_eq_true rfl, Nat.le_of_ble_eq_true rfl⟩ ⟨Nat.le_of_ble_eq_true rfl, Nat.le_of_ble_eq_true rfl⟩ rfl rfl (Nat.le_of_ble_eq_true rfl) dL_fits_416 (fun r σ' h => ?_)
    obtain ⟨rfl, rfl⟩ := h
    exact o_V.sub (t_L_fits_419  hc hr hok hq) [2, 1, 3, 4, 0] rfl
  · have hok := hok.1 c400
    have hq := o_qp hq c400
    refine r_iload (pc := 403) hc 0 dL_fits_403 rfl ?_
    refine r_goto (pc := 405) (tgt := 419) hc dL_fits_405 (by decide) ?_
    exact o_V.sub (t_L_fits_419  hc hr hok hq) [2, 1, 3, 4, 0] rfl
set_option maxHeartbeats 4000000 in
set_option maxRecDepth 100000 in
theorem t_L_fits_372 {p : Program} {l : Launch} {e : Env} {s : State} {m : MethodId} {args : Array Value} {below : List Frame} {meth : Method} {c : Code} {G : Gt} {post : Int32 → Sg → Prop}   (hc : o_Cx p s m args meth c G cL_fits yL_fits.cls 11) (hr : meth.sig.returnType = (some .boolean)) {x6 : Int32} {x7 : Int32} {σ : Sg} (hok : ok_L_fits_372  x6 x7 σ) (hq : ∀ q : Int32 × Sg, q = f_L_fits_372  x6 x7 σ → post q.1 q.2) : o_V p l e { frames := 7, cells := 0, slots := 0, locals := 166 } s m args below meth c (MQ below (va_Qi post (fun σ' t => o_W G σ' t.heap) (o_A G)) args s 0 0 (o_A G)) G 0 0 11 σ 372 [(0, .ref (gAd G 0)), (6, .int x6), (7, .int x7)] [] := by
  refine r_iconst (pc := 372) (v := 0) hc dL_fits_372 rfl ?_
  exact o_V.sub (t_L_fits_373  hc hr hok hq) [0, 1, 2] rfl
set_option maxHeartbeats 4000000 in
set_option maxRecDepth 100000 in
theorem t_L_fits_365 {p : Program} {l : Launch} {e : Env} {s : State} {m : MethodId} {args : Array Value} {below : List Frame} {meth : Method} {c : Code} {G : Gt} {post : Int32 → Sg → Prop}   (hc : o_Cx p s m args meth c G cL_fits yL_fits.cls 11) (hr : meth.sig.returnType = (some .boolean)) {x6 : Int32} {x7 : Int32} {y0 : Int32} {y1 : Int32} {σ : Sg} (hok : ok_L_fits_365  x6 x7 y0 y1 σ) (hq : ∀ q : Int32 × Sg, q = f_L_fits_365  x6 x7 y0 y1 σ → post q.1 q.2) : o_V p l e { frames := 7, cells := 0, slots := 0, locals := 166 } s m args below meth c (MQ below (va_Qi post (fun σ' t => o_W G σ' t.heap) (o_A G)) args s 0 0 (o_A G)) G 0 0 11 σ 365 [(0, .ref (gAd G 0)), (6, .int x6), (7, .int x7)] [.int y0, .int y1] := by
  refine r_icmp_ne (pc := 365) (tgt := 372) hc dL_fits_365 (by decide) (fun c365 => ?_) (fun c365 => ?_)
  · have hok := hok.2 c365
    have hq := o_qn hq c365
    exact o_V.sub (t_L_fits_372  hc hr hok hq) [0, 1, 2] rfl
  · have hok := hok.1 c365
    have hq := o_qp hq c365
    refine r_iconst (pc := 368) (v := 1) hc dL_fits_368 rfl ?_
    refine r_goto (pc := 369) (tgt := 373) hc dL_fits_369 (by decide) ?_
    exact o_V.sub (t_L_fits_373  hc hr hok hq) [0, 1, 2] rfl
set_option maxHeartbeats 4000000 in
set_option maxRecDepth 100000 in
theorem t_L_fits_305 {p : Program} {l : Launch} {e : Env} {s : State} {m : MethodId} {args : Array Value} {below : List Frame} {meth : Method} {c : Code} {G : Gt} {post : Int32 → Sg → Prop}   (hc : o_Cx p s m args meth c G cL_fits yL_fits.cls 11) (hr : meth.sig.returnType = (some .boolean)) {x2 : Int32} {x5 : Int32} {σ : Sg} (hok : ok_L_fits_305  x2 x5 σ) (hq : ∀ q : Int32 × Sg, q = f_L_fits_305  x2 x5 σ → post q.1 q.2) : o_V p l e { frames := 7, cells := 0, slots := 0, locals := 166 } s m args below meth c (MQ below (va_Qi post (fun σ' t => o_W G σ' t.heap) (o_A G)) args s 0 0 (o_A G)) G 0 0 11 σ 305 [(0, .ref (gAd G 0)), (2, .int x2), (5, .int x5)] [] := by
  refine r_aload_n (pc := 305) hc 0 dL_fits_305 rfl rfl ?_
  refine r_iconst (pc := 306) (v := 2) hc dL_fits_306 rfl ?_
  obtain ⟨hs1, hok⟩ := hok
  refine r_callV_i (pc := 307) (as := [.int _]) hc (c_X5_look l _ hs1) kk5 (o_lt hc (by decide)) rfl mV_X5_look kM_L_66 ⟨Nat.le_of_ble_eq_true rfl, Nat.le_of_ble_eq_true rfl⟩ ⟨Nat.le_of_ble_eq_true rfl, Nat.le_of_ble_eq_true rfl⟩ rfl rfl (Nat.le_of_ble_eq_true rfl) dL_fits_307 (fun r σ' h => ?_)
  obtain ⟨rfl, rfl⟩ := h
  refine r_istore (pc := 310) (lv' := [(6, _), (0, _), (2, _), (5, _)]) hc dL_fits_310 (by decide) rfl ?_
  refine r_aload_n (pc := 312) hc 1 dL_fits_312 rfl rfl ?_
  refine r_iconst (pc := 313) (v := 0) hc dL_fits_313 rfl ?_
  obtain ⟨hs3, hok⟩ := hok
  refine r_callV_i (pc := 314) (as := [.int _]) hc (c_X5_look l _ hs3) kk5 (o_lt hc (by decide)) rfl mV_X5_look kM_L_66 ⟨Nat.le_of_ble_eq_true rfl, Nat.le_of_ble_eq_true rfl⟩ ⟨Nat.le_of_ble_eq_true rfl, Nat.le_of_ble_eq_true rfl⟩ rfl rfl (Nat.le_of_ble_eq_true rfl) dL_fits_314 (fun r σ' h => ?_)
  obtain ⟨rfl, rfl⟩ := h
  refine r_istore (pc := 317) (lv' := [(7, _), (6, _), (0, _), (2, _), (5, _)]) hc dL_fits_317 (by decide) rfl ?_
  refine r_iload (pc := 319) hc 4 dL_fits_319 rfl ?_
  refine r_if_eq (pc := 321) (tgt := 372) hc dL_fits_321 (by decide) (fun c321 => ?_) (fun c321 => ?_)
  · have hok := hok.1 c321
    have hq := o_qp hq c321
    exact o_V.sub (t_L_fits_372  hc hr hok hq) [2, 1, 0] rfl
  · have hok := hok.2 c321
    have hq := o_qn hq c321
    refine r_iload (pc := 324) hc 1 dL_fits_324 rfl ?_
    refine r_aload_n (pc := 326) hc 2 dL_fits_326 rfl rfl ?_
    refine r_aload_n (pc := 327) hc 2 dL_fits_327 rfl rfl ?_
    refine r_iconst (pc := 328) (v := 0) hc dL_fits_328 rfl ?_
    obtain ⟨hs5, hok⟩ := hok
    refine r_callV_i (pc := 329) (as := [.int _]) hc (c_X5_reading l _ hs5) kk5 (o_lt hc (by decide)) rfl mV_X5_reading kM_L_30 ⟨Nat.le_of_ble_eq_true rfl, Nat.le_of_ble_eq_true rfl⟩ ⟨Nat.le_of_ble_eq_true rfl, Nat.le_of_ble_eq_true rfl⟩ rfl rfl (Nat.le_of_ble_eq_true rfl) dL_fits_329 (fun r σ' h => ?_)
    obtain ⟨rfl, rfl⟩ := h
    refine r_aload_n (pc := 332) hc 2 dL_fits_332 rfl rfl ?_
    refine r_iconst (pc := 333) (v := 1) hc dL_fits_333 rfl ?_
    obtain ⟨hs6, hok⟩ := hok
    refine r_callV_i (pc := 334) (as := [.int _]) hc (c_X5_reading l _ hs6) kk5 (o_lt hc (by decide)) rfl mV_X5_reading kM_L_30 ⟨Nat.le_of_ble_eq_true rfl, Nat.le_of_ble_eq_true rfl⟩ ⟨Nat.le_of_ble_eq_true rfl, Nat.le_of_ble_eq_true rfl⟩ rfl rfl (Nat.le_of_ble_eq_true rfl) dL_fits_334 (fun r σ' h => ?_)
    obtain ⟨rfl, rfl⟩ := h
    refine r_aload_n (pc := 337) hc 2 dL_fits_337 rfl rfl ?_
    refine r_iconst (pc := 338) (v := 2) hc dL_fits_338 rfl ?_
    obtain ⟨hs7, hok⟩ := hok
    refine r_callV_i (pc := 339) (as := [.int _]) hc (c_X5_reading l _ hs7) kk5 (o_lt hc (by decide)) rfl mV_X5_reading kM_L_30 ⟨Nat.le_of_ble_eq_true rfl, Nat.le_of_ble_eq_true rfl⟩ ⟨Nat.le_of_ble_eq_true rfl, Nat.le_of_ble_eq_true rfl⟩ rfl rfl (Nat.le_of_ble_eq_true rfl) dL_fits_339 (fun r σ' h => ?_)
    obtain ⟨rfl, rfl⟩ := h
    refine r_iconst (pc := 342) (v := 0) hc dL_fits_342 rfl ?_
    obtain ⟨hs8, hok⟩ := hok
    refine r_callV_i (pc := 343) (as := [.int _, .int _, .int _, .int _]) hc (c_X5_found l _ hs8) kk5 (o_lt hc (by decide)) rfl mV_X5_found kM_L_72 ⟨Nat.le_of_ble_eq_true rfl, Nat.le_of_ble_eq_true rfl⟩ ⟨Nat.le_of_ble_eq_true rfl, Nat.le_of_ble_eq_true rfl⟩ rfl rfl (Nat.le_of_ble_eq_true rfl) dL_fits_343 (fun r σ' h => ?_)
    obtain ⟨rfl, rfl⟩ := h
    refine r_icmp_ne (pc := 346) (tgt := 372) hc dL_fits_346 (by decide) (fun c346 => ?_) (fun c346 => ?_)
    · have hok := hok.2 c346
      have hq := o_qn hq c346
      exact o_V.sub (t_L_fits_372  hc hr hok hq) [2, 1, 0] rfl
    · have hok := hok.1 c346
      have hq := o_qp hq c346
      refine r_aload_n (pc := 349) hc 2 dL_fits_349 rfl rfl ?_
      refine r_iconst (pc := 350) (v := 4) hc dL_fits_350 rfl ?_
      obtain ⟨hs10, hok⟩ := hok
      refine r_callV_i (pc := 351) (as := [.int _]) hc (c_X5_look l _ hs10) kk5 (o_lt hc (by decide)) rfl mV_X5_look kM_L_66 ⟨Nat.le_of_ble_eq_true rfl, Nat.le_of_ble_eq_true rfl⟩ ⟨Nat.le_of_ble_eq_true rfl, Nat.le_of_ble_eq_true rfl⟩ rfl rfl (Nat.le_of_ble_eq_true rfl) dL_fits_351 (fun r σ' h => ?_)
      obtain ⟨rfl, rfl⟩ := h
      refine r_iload (pc := 354) hc 0 dL_fits_354 rfl ?_
      refine r_iload_n (pc := 356) hc 3 dL_fits_356 rfl rfl ?_
      refine r_icmp_ne (pc := 357) (tgt := 364) hc dL_fits_357 (by decide) (fun c357 => ?_) (fun c357 => ?_)
      · have hok := hok.2 c357
        have hq := o_qn hq c357
        refine r_iconst (pc := 364) (v := 0) hc dL_fits_364 rfl ?_
        exact o_V.sub (t_L_fits_365  hc hr hok hq) [2, 1, 0] rfl
      · have hok := hok.1 c357
        have hq := o_qp hq c357
        refine r_iconst (pc := 360) (v := 1) hc dL_fits_360 rfl ?_
        refine r_goto (pc := 361) (tgt := 365) hc dL_fits_361 (by decide) ?_
        exact o_V.sub (t_L_fits_365  hc hr hok hq) [2, 1, 0] rfl
set_option maxHeartbeats 4000000 in
set_option maxRecDepth 100000 in
theorem t_L_fits_260 {p : Program} {l : Launch} {e : Env} {s : State} {m : MethodId} {args : Array Value} {below : List Frame} {meth : Method} {c : Code} {G : Gt} {post : Int32 → Sg → Prop}   (hc : o_Cx p s m args meth c G cL_fits yL_fits.cls 11) (hr : meth.sig.returnType = (some .boolean)) : ∀ (n : Nat) (x2 : Int32) (x5 : Int32) (x6 : Int32) (σ : Sg) (hok : ok_L_fits_260  n x2 x5 x6 σ) (hq : ∀ q : Int32 × Sg, q = f_L_fits_260  n x2 x5 x6 σ → post q.1 q.2), o_V p l e { frames := 7, cells := 0, slots := 0, locals := 166 } s m args below meth c (MQ below (va_Qi post (fun σ' t => o_W G σ' t.heap) (o_A G)) args s 0 0 (o_A G)) G 0 0 11 σ 260 [(0, .ref (gAd G 0)), (2, .int x2), (5, .int x5), (6, .int x6)] [] := by
  intro n
  induction n with
  | zero =>
    intro x2 x5 x6 σ hok hq
    exact hok.elim
  | succ n ih =>
    intro x2 x5 x6 σ hok hq
    refine r_iload (pc := 260) hc 3 dL_fits_260 rfl ?_
    refine r_iconst (pc := 262) (v := 3) hc dL_fits_262 rfl ?_
    refine r_icmp_ge (pc := 263) (tgt := 305) hc dL_fits_263 (by decide) (fun c263 => ?_) (fun c263 => ?_)
    · have hok := hok.1 c263
      have hq := o_qp hq c263
      exact o_V.sub (t_L_fits_305  hc hr hok hq) [0, 1, 2] rfl
    · have hok := hok.2 c263
      have hq := o_qn hq c263
      refine r_iload (pc := 266) hc 2 dL_fits_266 rfl ?_
      refine r_if_eq (pc := 268) (tgt := 305) hc dL_fits_268 (by decide) (fun c268 => ?_) (fun c268 => ?_)
      · have hok := hok.1 c268
        have hq := o_qp hq c268
        exact o_V.sub (t_L_fits_305  hc hr hok hq) [0, 1, 2] rfl
      · have hok := hok.2 c268
        have hq := o_qn hq c268
        refine r_aload_n (pc := 271) hc 0 dL_fits_271 rfl rfl ?_
        refine r_iload (pc := 272) hc 3 dL_fits_272 rfl ?_
        obtain ⟨hs1, hok⟩ := hok
        refine r_callV_i (pc := 274) (as := [.int _]) hc (c_X5_reading l _ hs1) kk5 (o_lt hc (by decide)) rfl mV_X5_reading kM_L_30 ⟨Nat.le_of_ble_eq_true rfl, Nat.le_of_ble_eq_true rfl⟩ ⟨Nat.le_of_ble_eq_true rfl, Nat.le_of_ble_eq_true rfl⟩ rfl rfl (Nat.le_of_ble_eq_true rfl) dL_fits_274 (fun r σ' h => ?_)
        obtain ⟨rfl, rfl⟩ := h
        refine r_iload_n (pc := 277) hc 1 dL_fits_277 rfl rfl ?_
        refine r_isub (pc := 278) hc dL_fits_278 ?_
        refine r_iload (pc := 279) hc 3 dL_fits_279 rfl ?_
        obtain ⟨hs2, hok⟩ := hok
        refine r_callS_i (pc := 281) (as := [.int _]) hc (c_L_period l _ hs2) mS_L_period kM_L_98 ⟨Nat.le_of_ble_eq_true rfl, Nat.le_of_ble_eq_true rfl⟩ ⟨Nat.le_of_ble_eq_true rfl, Nat.le_of_ble_eq_true rfl⟩ rfl rfl (Nat.le_of_ble_eq_true rfl) dL_fits_281 (fun r σ' h => ?_)
        obtain ⟨rfl, rfl⟩ := h
        obtain ⟨hs3, hok⟩ := hok
        refine r_callS_i (pc := 284) (as := [.int _, .int _]) hc (c_L_near l _ hs3) mS_L_near kM_L_95 ⟨Nat.le_of_ble_eq_true rfl, Nat.le_of_ble_eq_true rfl⟩ ⟨Nat.le_of_ble_eq_true rfl, Nat.le_of_ble_eq_true rfl⟩ rfl rfl (Nat.le_of_ble_eq_true rfl) dL_fits_284 (fun r σ' h => ?_)
        obtain ⟨rfl, rfl⟩ := h
        refine r_bipush (pc := 287) (v := 19) hc dL_fits_287 (by decide) ?_
        refine r_icmp_ge (pc := 289) (tgt := 296) hc dL_fits_289 (by decide) (fun c289 => ?_) (fun c289 => ?_)
        · have hok := hok.1 c289
          have hq := o_qp hq c289
          refine r_iconst (pc := 296) (v := 0) hc dL_fits_296 rfl ?_
          refine r_istore (pc := 297) (lv' := [(5, _), (0, _), (2, _), (6, _)]) hc dL_fits_297 (by decide) rfl ?_
          refine r_iinc (pc := 299) (q := 3) (v := _ + 1) (lv' := [(6, _), (5, _), (0, _), (2, _)]) hc dL_fits_299 rfl rfl (by decide) rfl ?_
          refine r_goto (pc := 302) (tgt := 260) hc dL_fits_302 (by decide) ?_
          exact o_V.sub (ih _ _ _ _ hok hq) [2, 3, 1, 0] rfl
        · have hok := hok.2 c289
          have hq := o_qn hq c289
          refine r_iconst (pc := 292) (v := 1) hc dL_fits_292 rfl ?_
          refine r_goto (pc := 293) (tgt := 297) hc dL_fits_293 (by decide) ?_
          refine r_istore (pc := 297) (lv' := [(5, _), (0, _), (2, _), (6, _)]) hc dL_fits_297 (by decide) rfl ?_
          refine r_iinc (pc := 299) (q := 3) (v := _ + 1) (lv' := [(6, _), (5, _), (0, _), (2, _)]) hc dL_fits_299 rfl rfl (by decide) rfl ?_
          refine r_goto (pc := 302) (tgt := 260) hc dL_fits_302 (by decide) ?_
          exact o_V.sub (ih _ _ _ _ hok hq) [2, 3, 1, 0] rfl
set_option maxHeartbeats 4000000 in
set_option maxRecDepth 100000 in
theorem t_L_fits_231 {p : Program} {l : Launch} {e : Env} {s : State} {m : MethodId} {args : Array Value} {below : List Frame} {meth : Method} {c : Code} {G : Gt} {post : Int32 → Sg → Prop}   (hc : o_Cx p s m args meth c G cL_fits yL_fits.cls 11) (hr : meth.sig.returnType = (some .boolean)) {x2 : Int32} {y0 : Int32} {y1 : Int32} {σ : Sg} (hok : ok_L_fits_231  x2 y0 y1 σ) (hq : ∀ q : Int32 × Sg, q = f_L_fits_231  x2 y0 y1 σ → post q.1 q.2) : o_V p l e { frames := 7, cells := 0, slots := 0, locals := 166 } s m args below meth c (MQ below (va_Qi post (fun σ' t => o_W G σ' t.heap) (o_A G)) args s 0 0 (o_A G)) G 0 0 11 σ 231 [(0, .ref (gAd G 0)), (2, .int x2)] [.int y0, .int y1] := by
  refine r_icmp_ne (pc := 231) (tgt := 254) hc dL_fits_231 (by decide) (fun c231 => ?_) (fun c231 => ?_)
  · have hok := hok.2 c231
    have hq := o_qn hq c231
    refine r_iconst (pc := 254) (v := 0) hc dL_fits_254 rfl ?_
    refine r_istore (pc := 255) (lv' := [(5, _), (0, _), (2, _)]) hc dL_fits_255 (by decide) rfl ?_
    refine r_iconst (pc := 257) (v := 0) hc dL_fits_257 rfl ?_
    refine r_istore (pc := 258) (lv' := [(6, _), (5, _), (0, _), (2, _)]) hc dL_fits_258 (by decide) rfl ?_
    exact o_V.sub (t_L_fits_260  hc hr oF _ _ _ _ hok hq) [2, 3, 1, 0] rfl
  · have hok := hok.1 c231
    have hq := o_qp hq c231
    refine r_aload_n (pc := 234) hc 0 dL_fits_234 rfl rfl ?_
    obtain ⟨hs1, hok⟩ := hok
    refine r_callV_i (pc := 235) (as := []) hc (c_X5_poor l _ hs1) kk5 (o_lt hc (by decide)) rfl mV_X5_poor kM_L_33 ⟨Nat.le_of_ble_eq_true rfl, Nat.le_of_ble_eq_true rfl⟩ ⟨Nat.le_of_ble_eq_true rfl, Nat.le_of_ble_eq_true rfl⟩ rfl rfl (Nat.le_of_ble_eq_true rfl) dL_fits_235 (fun r σ' h => ?_)
    obtain ⟨rfl, rfl⟩ := h
    refine r_if_lt (pc := 238) (tgt := 254) hc dL_fits_238 (by decide) (fun c238 => ?_) (fun c238 => ?_)
    · have hok := hok.1 c238
      have hq := o_qp hq c238
      refine r_iconst (pc := 254) (v := 0) hc dL_fits_254 rfl ?_
      refine r_istore (pc := 255) (lv' := [(5, _), (0, _), (2, _)]) hc dL_fits_255 (by decide) rfl ?_
      refine r_iconst (pc := 257) (v := 0) hc dL_fits_257 rfl ?_
      refine r_istore (pc := 258) (lv' := [(6, _), (5, _), (0, _), (2, _)]) hc dL_fits_258 (by decide) rfl ?_
      exact o_V.sub (t_L_fits_260  hc hr oF _ _ _ _ hok hq) [2, 3, 1, 0] rfl
    · have hok := hok.2 c238
      have hq := o_qn hq c238
      refine r_aload_n (pc := 241) hc 0 dL_fits_241 rfl rfl ?_
      obtain ⟨hs2, hok⟩ := hok
      refine r_callV_i (pc := 242) (as := []) hc (c_X5_poor l _ hs2) kk5 (o_lt hc (by decide)) rfl mV_X5_poor kM_L_33 ⟨Nat.le_of_ble_eq_true rfl, Nat.le_of_ble_eq_true rfl⟩ ⟨Nat.le_of_ble_eq_true rfl, Nat.le_of_ble_eq_true rfl⟩ rfl rfl (Nat.le_of_ble_eq_true rfl) dL_fits_242 (fun r σ' h => ?_)
      obtain ⟨rfl, rfl⟩ := h
      refine r_bipush (pc := 245) (v := 9) hc dL_fits_245 (by decide) ?_
      refine r_icmp_ge (pc := 247) (tgt := 254) hc dL_fits_247 (by decide) (fun c247 => ?_) (fun c247 => ?_)
      · have hok := hok.1 c247
        have hq := o_qp hq c247
        refine r_iconst (pc := 254) (v := 0) hc dL_fits_254 rfl ?_
        refine r_istore (pc := 255) (lv' := [(5, _), (0, _), (2, _)]) hc dL_fits_255 (by decide) rfl ?_
        refine r_iconst (pc := 257) (v := 0) hc dL_fits_257 rfl ?_
        refine r_istore (pc := 258) (lv' := [(6, _), (5, _), (0, _), (2, _)]) hc dL_fits_258 (by decide) rfl ?_
        exact o_V.sub (t_L_fits_260  hc hr oF _ _ _ _ hok hq) [2, 3, 1, 0] rfl
      · have hok := hok.2 c247
        have hq := o_qn hq c247
        refine r_iconst (pc := 250) (v := 1) hc dL_fits_250 rfl ?_
        refine r_goto (pc := 251) (tgt := 255) hc dL_fits_251 (by decide) ?_
        refine r_istore (pc := 255) (lv' := [(5, _), (0, _), (2, _)]) hc dL_fits_255 (by decide) rfl ?_
        refine r_iconst (pc := 257) (v := 0) hc dL_fits_257 rfl ?_
        refine r_istore (pc := 258) (lv' := [(6, _), (5, _), (0, _), (2, _)]) hc dL_fits_258 (by decide) rfl ?_
        exact o_V.sub (t_L_fits_260  hc hr oF _ _ _ _ hok hq) [2, 3, 1, 0] rfl
set_option maxHeartbeats 4000000 in
set_option maxRecDepth 100000 in
theorem t_L_fits_20 {p : Program} {l : Launch} {e : Env} {s : State} {m : MethodId} {args : Array Value} {below : List Frame} {meth : Method} {c : Code} {G : Gt} {post : Int32 → Sg → Prop}   (hc : o_Cx p s m args meth c G cL_fits yL_fits.cls 11) (hr : meth.sig.returnType = (some .boolean)) : ∀ (n : Nat) (x1 : Int32) (x2 : Int32) (x3 : Int32) (x5 : Int32) (σ : Sg) (hok : ok_L_fits_20  n x1 x2 x3 x5 σ) (hq : ∀ q : Int32 × Sg, q = f_L_fits_20  n x1 x2 x3 x5 σ → post q.1 q.2), o_V p l e { frames := 7, cells := 0, slots := 0, locals := 166 } s m args below meth c (MQ below (va_Qi post (fun σ' t => o_W G σ' t.heap) (o_A G)) args s 0 0 (o_A G)) G 0 0 11 σ 20 [(0, .ref (gAd G 0)), (1, .int x1), (2, .int x2), (3, .int x3), (5, .int x5)] [] := by
  intro n
  induction n with
  | zero =>
    intro x1 x2 x3 x5 σ hok hq
    exact hok.elim
  | succ n ih =>
    intro x1 x2 x3 x5 σ hok hq
    refine r_iload (pc := 20) hc 4 dL_fits_20 rfl ?_
    refine r_bipush (pc := 22) (v := 24) hc dL_fits_22 (by decide) ?_
    refine r_icmp_ge (pc := 24) (tgt := 60) hc dL_fits_24 (by decide) (fun c24 => ?_) (fun c24 => ?_)
    · have hok := hok.1 c24
      have hq := o_qp hq c24
      refine r_iload_n (pc := 60) hc 1 dL_fits_60 rfl rfl ?_
      refine r_if_lt (pc := 61) (tgt := 254) hc dL_fits_61 (by decide) (fun c61 => ?_) (fun c61 => ?_)
      · have hok := hok.1 c61
        have hq := o_qp hq c61
        refine r_iconst (pc := 254) (v := 0) hc dL_fits_254 rfl ?_
        refine r_istore (pc := 255) (lv' := [(5, _), (0, _), (1, _), (2, _), (3, _)]) hc dL_fits_255 (by decide) rfl ?_
        refine r_iconst (pc := 257) (v := 0) hc dL_fits_257 rfl ?_
        refine r_istore (pc := 258) (lv' := [(6, _), (5, _), (0, _), (1, _), (2, _), (3, _)]) hc dL_fits_258 (by decide) rfl ?_
        exact o_V.sub (t_L_fits_260  hc hr oF _ _ _ _ hok hq) [2, 4, 1, 0] rfl
      · have hok := hok.2 c61
        have hq := o_qn hq c61
        refine r_iload_n (pc := 64) hc 1 dL_fits_64 rfl rfl ?_
        refine r_ldc (pc := 65) (v := 65280) hc kK_L_91 dL_fits_65 ?_
        refine r_icmp_ge (pc := 67) (tgt := 254) hc dL_fits_67 (by decide) (fun c67 => ?_) (fun c67 => ?_)
        · have hok := hok.1 c67
          have hq := o_qp hq c67
          refine r_iconst (pc := 254) (v := 0) hc dL_fits_254 rfl ?_
          refine r_istore (pc := 255) (lv' := [(5, _), (0, _), (1, _), (2, _), (3, _)]) hc dL_fits_255 (by decide) rfl ?_
          refine r_iconst (pc := 257) (v := 0) hc dL_fits_257 rfl ?_
          refine r_istore (pc := 258) (lv' := [(6, _), (5, _), (0, _), (1, _), (2, _), (3, _)]) hc dL_fits_258 (by decide) rfl ?_
          exact o_V.sub (t_L_fits_260  hc hr oF _ _ _ _ hok hq) [2, 4, 1, 0] rfl
        · have hok := hok.2 c67
          have hq := o_qn hq c67
          refine r_iload_n (pc := 70) hc 2 dL_fits_70 rfl rfl ?_
          refine r_iload_n (pc := 71) hc 1 dL_fits_71 rfl rfl ?_
          refine r_sipush (pc := 72) (v := 4080) hc dL_fits_72 (by decide) ?_
          refine r_irem (pc := 75) hc dL_fits_75 (by decide) ?_
          refine r_icmp_ne (pc := 76) (tgt := 254) hc dL_fits_76 (by decide) (fun c76 => ?_) (fun c76 => ?_)
          · have hok := hok.2 c76
            have hq := o_qn hq c76
            refine r_iconst (pc := 254) (v := 0) hc dL_fits_254 rfl ?_
            refine r_istore (pc := 255) (lv' := [(5, _), (0, _), (1, _), (2, _), (3, _)]) hc dL_fits_255 (by decide) rfl ?_
            refine r_iconst (pc := 257) (v := 0) hc dL_fits_257 rfl ?_
            refine r_istore (pc := 258) (lv' := [(6, _), (5, _), (0, _), (1, _), (2, _), (3, _)]) hc dL_fits_258 (by decide) rfl ?_
            exact o_V.sub (t_L_fits_260  hc hr oF _ _ _ _ hok hq) [2, 4, 1, 0] rfl
          · have hok := hok.1 c76
            have hq := o_qp hq c76
            refine r_aload_n (pc := 79) hc 0 dL_fits_79 rfl rfl ?_
            refine r_iconst (pc := 80) (v := 2) hc dL_fits_80 rfl ?_
            obtain ⟨hs1, hok⟩ := hok
            refine r_callV_i (pc := 81) (as := [.int _]) hc (c_X5_count l _ hs1) kk5 (o_lt hc (by decide)) rfl mV_X5_count kM_L_19 ⟨Nat.le_of_ble_eq_true rfl, Nat.le_of_ble_eq_true rfl⟩ ⟨Nat.le_of_ble_eq_true rfl, Nat.le_of_ble_eq_true rfl⟩ rfl rfl (Nat.le_of_ble_eq_true rfl) dL_fits_81 (fun r σ' h => ?_)
            obtain ⟨rfl, rfl⟩ := h
            refine r_if_lt (pc := 84) (tgt := 254) hc dL_fits_84 (by decide) (fun c84 => ?_) (fun c84 => ?_)
            · have hok := hok.1 c84
              have hq := o_qp hq c84
              refine r_iconst (pc := 254) (v := 0) hc dL_fits_254 rfl ?_
              refine r_istore (pc := 255) (lv' := [(5, _), (0, _), (1, _), (2, _), (3, _)]) hc dL_fits_255 (by decide) rfl ?_
              refine r_iconst (pc := 257) (v := 0) hc dL_fits_257 rfl ?_
              refine r_istore (pc := 258) (lv' := [(6, _), (5, _), (0, _), (1, _), (2, _), (3, _)]) hc dL_fits_258 (by decide) rfl ?_
              exact o_V.sub (t_L_fits_260  hc hr oF _ _ _ _ hok hq) [2, 4, 1, 0] rfl
            · have hok := hok.2 c84
              have hq := o_qn hq c84
              refine r_aload_n (pc := 87) hc 0 dL_fits_87 rfl rfl ?_
              refine r_iconst (pc := 88) (v := 2) hc dL_fits_88 rfl ?_
              obtain ⟨hs2, hok⟩ := hok
              refine r_callV_i (pc := 89) (as := [.int _]) hc (c_X5_count l _ hs2) kk5 (o_lt hc (by decide)) rfl mV_X5_count kM_L_19 ⟨Nat.le_of_ble_eq_true rfl, Nat.le_of_ble_eq_true rfl⟩ ⟨Nat.le_of_ble_eq_true rfl, Nat.le_of_ble_eq_true rfl⟩ rfl rfl (Nat.le_of_ble_eq_true rfl) dL_fits_89 (fun r σ' h => ?_)
              obtain ⟨rfl, rfl⟩ := h
              refine r_bipush (pc := 92) (v := 64) hc dL_fits_92 (by decide) ?_
              refine r_icmp_ge (pc := 94) (tgt := 254) hc dL_fits_94 (by decide) (fun c94 => ?_) (fun c94 => ?_)
              · have hok := hok.1 c94
                have hq := o_qp hq c94
                refine r_iconst (pc := 254) (v := 0) hc dL_fits_254 rfl ?_
                refine r_istore (pc := 255) (lv' := [(5, _), (0, _), (1, _), (2, _), (3, _)]) hc dL_fits_255 (by decide) rfl ?_
                refine r_iconst (pc := 257) (v := 0) hc dL_fits_257 rfl ?_
                refine r_istore (pc := 258) (lv' := [(6, _), (5, _), (0, _), (1, _), (2, _), (3, _)]) hc dL_fits_258 (by decide) rfl ?_
                exact o_V.sub (t_L_fits_260  hc hr oF _ _ _ _ hok hq) [2, 4, 1, 0] rfl
              · have hok := hok.2 c94
                have hq := o_qn hq c94
                refine r_aload_n (pc := 97) hc 0 dL_fits_97 rfl rfl ?_
                refine r_iconst (pc := 98) (v := 4) hc dL_fits_98 rfl ?_
                obtain ⟨hs3, hok⟩ := hok
                refine r_callV_i (pc := 99) (as := [.int _]) hc (c_X5_count l _ hs3) kk5 (o_lt hc (by decide)) rfl mV_X5_count kM_L_19 ⟨Nat.le_of_ble_eq_true rfl, Nat.le_of_ble_eq_true rfl⟩ ⟨Nat.le_of_ble_eq_true rfl, Nat.le_of_ble_eq_true rfl⟩ rfl rfl (Nat.le_of_ble_eq_true rfl) dL_fits_99 (fun r σ' h => ?_)
                obtain ⟨rfl, rfl⟩ := h
                refine r_if_lt (pc := 102) (tgt := 254) hc dL_fits_102 (by decide) (fun c102 => ?_) (fun c102 => ?_)
                · have hok := hok.1 c102
                  have hq := o_qp hq c102
                  refine r_iconst (pc := 254) (v := 0) hc dL_fits_254 rfl ?_
                  refine r_istore (pc := 255) (lv' := [(5, _), (0, _), (1, _), (2, _), (3, _)]) hc dL_fits_255 (by decide) rfl ?_
                  refine r_iconst (pc := 257) (v := 0) hc dL_fits_257 rfl ?_
                  refine r_istore (pc := 258) (lv' := [(6, _), (5, _), (0, _), (1, _), (2, _), (3, _)]) hc dL_fits_258 (by decide) rfl ?_
                  exact o_V.sub (t_L_fits_260  hc hr oF _ _ _ _ hok hq) [2, 4, 1, 0] rfl
                · have hok := hok.2 c102
                  have hq := o_qn hq c102
                  refine r_aload_n (pc := 105) hc 0 dL_fits_105 rfl rfl ?_
                  refine r_iconst (pc := 106) (v := 4) hc dL_fits_106 rfl ?_
                  obtain ⟨hs4, hok⟩ := hok
                  refine r_callV_i (pc := 107) (as := [.int _]) hc (c_X5_count l _ hs4) kk5 (o_lt hc (by decide)) rfl mV_X5_count kM_L_19 ⟨Nat.le_of_ble_eq_true rfl, Nat.le_of_ble_eq_true rfl⟩ ⟨Nat.le_of_ble_eq_true rfl, Nat.le_of_ble_eq_true rfl⟩ rfl rfl (Nat.le_of_ble_eq_true rfl) dL_fits_107 (fun r σ' h => ?_)
                  obtain ⟨rfl, rfl⟩ := h
                  refine r_sipush (pc := 110) (v := 1000) hc dL_fits_110 (by decide) ?_
                  refine r_icmp_ge (pc := 113) (tgt := 254) hc dL_fits_113 (by decide) (fun c113 => ?_) (fun c113 => ?_)
                  · have hok := hok.1 c113
                    have hq := o_qp hq c113
                    refine r_iconst (pc := 254) (v := 0) hc dL_fits_254 rfl ?_
                    refine r_istore (pc := 255) (lv' := [(5, _), (0, _), (1, _), (2, _), (3, _)]) hc dL_fits_255 (by decide) rfl ?_
                    refine r_iconst (pc := 257) (v := 0) hc dL_fits_257 rfl ?_
                    refine r_istore (pc := 258) (lv' := [(6, _), (5, _), (0, _), (1, _), (2, _), (3, _)]) hc dL_fits_258 (by decide) rfl ?_
                    exact o_V.sub (t_L_fits_260  hc hr oF _ _ _ _ hok hq) [2, 4, 1, 0] rfl
                  · have hok := hok.2 c113
                    have hq := o_qn hq c113
                    refine r_aload_n (pc := 116) hc 0 dL_fits_116 rfl rfl ?_
                    refine r_iconst (pc := 117) (v := 5) hc dL_fits_117 rfl ?_
                    obtain ⟨hs5, hok⟩ := hok
                    refine r_callV_i (pc := 118) (as := [.int _]) hc (c_X5_count l _ hs5) kk5 (o_lt hc (by decide)) rfl mV_X5_count kM_L_19 ⟨Nat.le_of_ble_eq_true rfl, Nat.le_of_ble_eq_true rfl⟩ ⟨Nat.le_of_ble_eq_true rfl, Nat.le_of_ble_eq_true rfl⟩ rfl rfl (Nat.le_of_ble_eq_true rfl) dL_fits_118 (fun r σ' h => ?_)
                    obtain ⟨rfl, rfl⟩ := h
                    refine r_if_lt (pc := 121) (tgt := 254) hc dL_fits_121 (by decide) (fun c121 => ?_) (fun c121 => ?_)
                    · have hok := hok.1 c121
                      have hq := o_qp hq c121
                      refine r_iconst (pc := 254) (v := 0) hc dL_fits_254 rfl ?_
                      refine r_istore (pc := 255) (lv' := [(5, _), (0, _), (1, _), (2, _), (3, _)]) hc dL_fits_255 (by decide) rfl ?_
                      refine r_iconst (pc := 257) (v := 0) hc dL_fits_257 rfl ?_
                      refine r_istore (pc := 258) (lv' := [(6, _), (5, _), (0, _), (1, _), (2, _), (3, _)]) hc dL_fits_258 (by decide) rfl ?_
                      exact o_V.sub (t_L_fits_260  hc hr oF _ _ _ _ hok hq) [2, 4, 1, 0] rfl
                    · have hok := hok.2 c121
                      have hq := o_qn hq c121
                      refine r_aload_n (pc := 124) hc 0 dL_fits_124 rfl rfl ?_
                      refine r_iconst (pc := 125) (v := 5) hc dL_fits_125 rfl ?_
                      obtain ⟨hs6, hok⟩ := hok
                      refine r_callV_i (pc := 126) (as := [.int _]) hc (c_X5_count l _ hs6) kk5 (o_lt hc (by decide)) rfl mV_X5_count kM_L_19 ⟨Nat.le_of_ble_eq_true rfl, Nat.le_of_ble_eq_true rfl⟩ ⟨Nat.le_of_ble_eq_true rfl, Nat.le_of_ble_eq_true rfl⟩ rfl rfl (Nat.le_of_ble_eq_true rfl) dL_fits_126 (fun r σ' h => ?_)
                      obtain ⟨rfl, rfl⟩ := h
                      refine r_bipush (pc := 129) (v := 100) hc dL_fits_129 (by decide) ?_
                      refine r_icmp_ge (pc := 131) (tgt := 254) hc dL_fits_131 (by decide) (fun c131 => ?_) (fun c131 => ?_)
                      · have hok := hok.1 c131
                        have hq := o_qp hq c131
                        refine r_iconst (pc := 254) (v := 0) hc dL_fits_254 rfl ?_
                        refine r_istore (pc := 255) (lv' := [(5, _), (0, _), (1, _), (2, _), (3, _)]) hc dL_fits_255 (by decide) rfl ?_
                        refine r_iconst (pc := 257) (v := 0) hc dL_fits_257 rfl ?_
                        refine r_istore (pc := 258) (lv' := [(6, _), (5, _), (0, _), (1, _), (2, _), (3, _)]) hc dL_fits_258 (by decide) rfl ?_
                        exact o_V.sub (t_L_fits_260  hc hr oF _ _ _ _ hok hq) [2, 4, 1, 0] rfl
                      · have hok := hok.2 c131
                        have hq := o_qn hq c131
                        refine r_aload_n (pc := 134) hc 0 dL_fits_134 rfl rfl ?_
                        refine r_bipush (pc := 135) (v := 8) hc dL_fits_135 (by decide) ?_
                        obtain ⟨hs7, hok⟩ := hok
                        refine r_callV_i (pc := 137) (as := [.int _]) hc (c_X5_count l _ hs7) kk5 (o_lt hc (by decide)) rfl mV_X5_count kM_L_19 ⟨Nat.le_of_ble_eq_true rfl, Nat.le_of_ble_eq_true rfl⟩ ⟨Nat.le_of_ble_eq_true rfl, Nat.le_of_ble_eq_true rfl⟩ rfl rfl (Nat.le_of_ble_eq_true rfl) dL_fits_137 (fun r σ' h => ?_)
                        obtain ⟨rfl, rfl⟩ := h
                        refine r_iload_n (pc := 140) hc 2 dL_fits_140 rfl rfl ?_
                        refine r_bipush (pc := 141) (v := 64) hc dL_fits_141 (by decide) ?_
                        refine r_imul (pc := 143) hc dL_fits_143 ?_
                        refine r_sipush (pc := 144) (v := 4080) hc dL_fits_144 (by decide) ?_
                        refine r_idiv (pc := 147) hc dL_fits_147 (by decide) ?_
                        refine r_aload_n (pc := 148) hc 0 dL_fits_148 rfl rfl ?_
                        refine r_bipush (pc := 149) (v := 23) hc dL_fits_149 (by decide) ?_
                        obtain ⟨hs8, hok⟩ := hok
                        refine r_callV_i (pc := 151) (as := [.int _]) hc (c_X5_count l _ hs8) kk5 (o_lt hc (by decide)) rfl mV_X5_count kM_L_19 ⟨Nat.le_of_ble_eq_true rfl, Nat.le_of_ble_eq_true rfl⟩ ⟨Nat.le_of_ble_eq_true rfl, Nat.le_of_ble_eq_true rfl⟩ rfl rfl (Nat.le_of_ble_eq_true rfl) dL_fits_151 (fun r σ' h => ?_)
                        obtain ⟨rfl, rfl⟩ := h
                        refine r_iadd (pc := 154) hc dL_fits_154 ?_
                        refine r_bipush (pc := 155) (v := 100) hc dL_fits_155 (by decide) ?_
                        refine r_isub (pc := 157) hc dL_fits_157 ?_
                        refine r_bipush (pc := 158) (v := 64) hc dL_fits_158 (by decide) ?_
                        obtain ⟨hs9, hok⟩ := hok
                        refine r_callS_i (pc := 160) (as := [.int _, .int _]) hc (c_L_rest l _ hs9) mS_L_rest kM_L_9 ⟨Nat.le_of_ble_eq_true rfl, Nat.le_of_ble_eq_true rfl⟩ ⟨Nat.le_of_ble_eq_true rfl, Nat.le_of_ble_eq_true rfl⟩ rfl rfl (Nat.le_of_ble_eq_true rfl) dL_fits_160 (fun r σ' h => ?_)
                        obtain ⟨rfl, rfl⟩ := h
                        refine r_icmp_ne (pc := 163) (tgt := 254) hc dL_fits_163 (by decide) (fun c163 => ?_) (fun c163 => ?_)
                        · have hok := hok.2 c163
                          have hq := o_qn hq c163
                          refine r_iconst (pc := 254) (v := 0) hc dL_fits_254 rfl ?_
                          refine r_istore (pc := 255) (lv' := [(5, _), (0, _), (1, _), (2, _), (3, _)]) hc dL_fits_255 (by decide) rfl ?_
                          refine r_iconst (pc := 257) (v := 0) hc dL_fits_257 rfl ?_
                          refine r_istore (pc := 258) (lv' := [(6, _), (5, _), (0, _), (1, _), (2, _), (3, _)]) hc dL_fits_258 (by decide) rfl ?_
                          exact o_V.sub (t_L_fits_260  hc hr oF _ _ _ _ hok hq) [2, 4, 1, 0] rfl
                        · have hok := hok.1 c163
                          have hq := o_qp hq c163
                          refine r_aload_n (pc := 166) hc 0 dL_fits_166 rfl rfl ?_
                          refine r_bipush (pc := 167) (v := 9) hc dL_fits_167 (by decide) ?_
                          obtain ⟨hs11, hok⟩ := hok
                          refine r_callV_i (pc := 169) (as := [.int _]) hc (c_X5_count l _ hs11) kk5 (o_lt hc (by decide)) rfl mV_X5_count kM_L_19 ⟨Nat.le_of_ble_eq_true rfl, Nat.le_of_ble_eq_true rfl⟩ ⟨Nat.le_of_ble_eq_true rfl, Nat.le_of_ble_eq_true rfl⟩ rfl rfl (Nat.le_of_ble_eq_true rfl) dL_fits_169 (fun r σ' h => ?_)
                          obtain ⟨rfl, rfl⟩ := h
                          refine r_iload_n (pc := 172) hc 3 dL_fits_172 rfl rfl ?_
                          refine r_icmp_ne (pc := 173) (tgt := 254) hc dL_fits_173 (by decide) (fun c173 => ?_) (fun c173 => ?_)
                          · have hok := hok.2 c173
                            have hq := o_qn hq c173
                            refine r_iconst (pc := 254) (v := 0) hc dL_fits_254 rfl ?_
                            refine r_istore (pc := 255) (lv' := [(5, _), (0, _), (1, _), (2, _), (3, _)]) hc dL_fits_255 (by decide) rfl ?_
                            refine r_iconst (pc := 257) (v := 0) hc dL_fits_257 rfl ?_
                            refine r_istore (pc := 258) (lv' := [(6, _), (5, _), (0, _), (1, _), (2, _), (3, _)]) hc dL_fits_258 (by decide) rfl ?_
                            exact o_V.sub (t_L_fits_260  hc hr oF _ _ _ _ hok hq) [2, 4, 1, 0] rfl
                          · have hok := hok.1 c173
                            have hq := o_qp hq c173
                            refine r_aload_n (pc := 176) hc 0 dL_fits_176 rfl rfl ?_
                            refine r_bipush (pc := 177) (v := 6) hc dL_fits_177 (by decide) ?_
                            obtain ⟨hs12, hok⟩ := hok
                            refine r_callV_i (pc := 179) (as := [.int _]) hc (c_X5_count l _ hs12) kk5 (o_lt hc (by decide)) rfl mV_X5_count kM_L_19 ⟨Nat.le_of_ble_eq_true rfl, Nat.le_of_ble_eq_true rfl⟩ ⟨Nat.le_of_ble_eq_true rfl, Nat.le_of_ble_eq_true rfl⟩ rfl rfl (Nat.le_of_ble_eq_true rfl) dL_fits_179 (fun r σ' h => ?_)
                            obtain ⟨rfl, rfl⟩ := h
                            refine r_bipush (pc := 182) (v := (-4)) hc dL_fits_182 (by decide) ?_
                            refine r_icmp_lt (pc := 184) (tgt := 254) hc dL_fits_184 (by decide) (fun c184 => ?_) (fun c184 => ?_)
                            · have hok := hok.1 c184
                              have hq := o_qp hq c184
                              refine r_iconst (pc := 254) (v := 0) hc dL_fits_254 rfl ?_
                              refine r_istore (pc := 255) (lv' := [(5, _), (0, _), (1, _), (2, _), (3, _)]) hc dL_fits_255 (by decide) rfl ?_
                              refine r_iconst (pc := 257) (v := 0) hc dL_fits_257 rfl ?_
                              refine r_istore (pc := 258) (lv' := [(6, _), (5, _), (0, _), (1, _), (2, _), (3, _)]) hc dL_fits_258 (by decide) rfl ?_
                              exact o_V.sub (t_L_fits_260  hc hr oF _ _ _ _ hok hq) [2, 4, 1, 0] rfl
                            · have hok := hok.2 c184
                              have hq := o_qn hq c184
                              refine r_aload_n (pc := 187) hc 0 dL_fits_187 rfl rfl ?_
                              refine r_bipush (pc := 188) (v := 6) hc dL_fits_188 (by decide) ?_
                              obtain ⟨hs13, hok⟩ := hok
                              refine r_callV_i (pc := 190) (as := [.int _]) hc (c_X5_count l _ hs13) kk5 (o_lt hc (by decide)) rfl mV_X5_count kM_L_19 ⟨Nat.le_of_ble_eq_true rfl, Nat.le_of_ble_eq_true rfl⟩ ⟨Nat.le_of_ble_eq_true rfl, Nat.le_of_ble_eq_true rfl⟩ rfl rfl (Nat.le_of_ble_eq_true rfl) dL_fits_190 (fun r σ' h => ?_)
                              obtain ⟨rfl, rfl⟩ := h
                              refine r_ldc (pc := 193) (v := 65280) hc kK_L_91 dL_fits_193 ?_
                              refine r_icmp_ge (pc := 195) (tgt := 254) hc dL_fits_195 (by decide) (fun c195 => ?_) (fun c195 => ?_)
                              · have hok := hok.1 c195
                                have hq := o_qp hq c195
                                refine r_iconst (pc := 254) (v := 0) hc dL_fits_254 rfl ?_
                                refine r_istore (pc := 255) (lv' := [(5, _), (0, _), (1, _), (2, _), (3, _)]) hc dL_fits_255 (by decide) rfl ?_
                                refine r_iconst (pc := 257) (v := 0) hc dL_fits_257 rfl ?_
                                refine r_istore (pc := 258) (lv' := [(6, _), (5, _), (0, _), (1, _), (2, _), (3, _)]) hc dL_fits_258 (by decide) rfl ?_
                                exact o_V.sub (t_L_fits_260  hc hr oF _ _ _ _ hok hq) [2, 4, 1, 0] rfl
                              · have hok := hok.2 c195
                                have hq := o_qn hq c195
                                refine r_aload_n (pc := 198) hc 0 dL_fits_198 rfl rfl ?_
                                obtain ⟨hs14, hok⟩ := hok
                                refine r_callV_i (pc := 199) (as := []) hc (c_X5_apart l _ hs14) kk5 (o_lt hc (by decide)) rfl mV_X5_apart kM_L_92 ⟨Nat.le_of_ble_eq_true rfl, Nat.le_of_ble_eq_true rfl⟩ ⟨Nat.le_of_ble_eq_true rfl, Nat.le_of_ble_eq_true rfl⟩ rfl rfl (Nat.le_of_ble_eq_true rfl) dL_fits_199 (fun r σ' h => ?_)
                                obtain ⟨rfl, rfl⟩ := h
                                refine r_aload_n (pc := 202) hc 0 dL_fits_202 rfl rfl ?_
                                refine r_bipush (pc := 203) (v := 6) hc dL_fits_203 (by decide) ?_
                                obtain ⟨hs15, hok⟩ := hok
                                refine r_callV_i (pc := 205) (as := [.int _]) hc (c_X5_count l _ hs15) kk5 (o_lt hc (by decide)) rfl mV_X5_count kM_L_19 ⟨Nat.le_of_ble_eq_true rfl, Nat.le_of_ble_eq_true rfl⟩ ⟨Nat.le_of_ble_eq_true rfl, Nat.le_of_ble_eq_true rfl⟩ rfl rfl (Nat.le_of_ble_eq_true rfl) dL_fits_205 (fun r σ' h => ?_)
                                obtain ⟨rfl, rfl⟩ := h
                                refine r_bipush (pc := 208) (v := (-4)) hc dL_fits_208 (by decide) ?_
                                refine r_icmp_ne (pc := 210) (tgt := 218) hc dL_fits_210 (by decide) (fun c210 => ?_) (fun c210 => ?_)
                                · have hok := hok.2 c210
                                  have hq := o_qn hq c210
                                  refine r_aload_n (pc := 218) hc 0 dL_fits_218 rfl rfl ?_
                                  refine r_bipush (pc := 219) (v := 6) hc dL_fits_219 (by decide) ?_
                                  obtain ⟨hs16, hok⟩ := hok
                                  refine r_callV_i (pc := 221) (as := [.int _]) hc (c_X5_count l _ hs16) kk5 (o_lt hc (by decide)) rfl mV_X5_count kM_L_19 ⟨Nat.le_of_ble_eq_true rfl, Nat.le_of_ble_eq_true rfl⟩ ⟨Nat.le_of_ble_eq_true rfl, Nat.le_of_ble_eq_true rfl⟩ rfl rfl (Nat.le_of_ble_eq_true rfl) dL_fits_221 (fun r σ' h => ?_)
                                  obtain ⟨rfl, rfl⟩ := h
                                  refine r_iload_n (pc := 224) hc 1 dL_fits_224 rfl rfl ?_
                                  refine r_isub (pc := 225) hc dL_fits_225 ?_
                                  refine r_ldc (pc := 226) (v := 65280) hc kK_L_91 dL_fits_226 ?_
                                  obtain ⟨hs17, hok⟩ := hok
                                  refine r_callS_i (pc := 228) (as := [.int _, .int _]) hc (c_L_near l _ hs17) mS_L_near kM_L_95 ⟨Nat.le_of_ble_eq_true rfl, Nat.le_of_ble_eq_true rfl⟩ ⟨Nat.le_of_ble_eq_true rfl, Nat.le_of_ble_eq_true rfl⟩ rfl rfl (Nat.le_of_ble_eq_true rfl) dL_fits_228 (fun r σ' h => ?_)
                                  obtain ⟨rfl, rfl⟩ := h
                                  exact o_V.sub (t_L_fits_231  hc hr hok hq) [0, 2] rfl
                                · have hok := hok.1 c210
                                  have hq := o_qp hq c210
                                  refine r_bipush (pc := 213) (v := (-4)) hc dL_fits_213 (by decide) ?_
                                  refine r_goto (pc := 215) (tgt := 231) hc dL_fits_215 (by decide) ?_
                                  exact o_V.sub (t_L_fits_231  hc hr hok hq) [0, 2] rfl
    · have hok := hok.2 c24
      have hq := o_qn hq c24
      refine r_iload_n (pc := 27) hc 3 dL_fits_27 rfl rfl ?_
      refine r_aload_n (pc := 28) hc 0 dL_fits_28 rfl rfl ?_
      refine r_iload (pc := 29) hc 4 dL_fits_29 rfl ?_
      refine r_bipush (pc := 31) (v := 8) hc dL_fits_31 (by decide) ?_
      refine r_idiv (pc := 33) hc dL_fits_33 (by decide) ?_
      refine r_iload (pc := 34) hc 4 dL_fits_34 rfl ?_
      refine r_bipush (pc := 36) (v := 8) hc dL_fits_36 (by decide) ?_
      refine r_irem (pc := 38) hc dL_fits_38 (by decide) ?_
      obtain ⟨hs18, hok⟩ := hok
      refine r_callV_i (pc := 39) (as := [.int _, .int _]) hc (c_X5_correction l _ hs18) kk5 (o_lt hc (by decide)) rfl mV_X5_correction kM_L_25 ⟨Nat.le_of_ble_eq_true rfl, Nat.le_of_ble_eq_true rfl⟩ ⟨Nat.le_of_ble_eq_true rfl, Nat.le_of_ble_eq_true rfl⟩ rfl rfl (Nat.le_of_ble_eq_true rfl) dL_fits_39 (fun r σ' h => ?_)
      obtain ⟨rfl, rfl⟩ := h
      refine r_bipush (pc := 42) (v := 100) hc dL_fits_42 (by decide) ?_
      refine r_icmp_ne (pc := 44) (tgt := 51) hc dL_fits_44 (by decide) (fun c44 => ?_) (fun c44 => ?_)
      · have hok := hok.2 c44
        have hq := o_qn hq c44
        refine r_iconst (pc := 51) (v := 1) hc dL_fits_51 rfl ?_
        refine r_iadd (pc := 52) hc dL_fits_52 ?_
        refine r_istore_n (pc := 53) (lv' := [(3, _), (0, _), (1, _), (2, _), (5, _)]) hc dL_fits_53 rfl (by decide) rfl ?_
        refine r_iinc (pc := 54) (q := 4) (v := _ + 1) (lv' := [(5, _), (3, _), (0, _), (1, _), (2, _)]) hc dL_fits_54 rfl rfl (by decide) rfl ?_
        refine r_goto (pc := 57) (tgt := 20) hc dL_fits_57 (by decide) ?_
        exact o_V.sub (ih _ _ _ _ _ hok hq) [2, 3, 4, 1, 0] rfl
      · have hok := hok.1 c44
        have hq := o_qp hq c44
        refine r_iconst (pc := 47) (v := 0) hc dL_fits_47 rfl ?_
        refine r_goto (pc := 48) (tgt := 52) hc dL_fits_48 (by decide) ?_
        refine r_iadd (pc := 52) hc dL_fits_52 ?_
        refine r_istore_n (pc := 53) (lv' := [(3, _), (0, _), (1, _), (2, _), (5, _)]) hc dL_fits_53 rfl (by decide) rfl ?_
        refine r_iinc (pc := 54) (q := 4) (v := _ + 1) (lv' := [(5, _), (3, _), (0, _), (1, _), (2, _)]) hc dL_fits_54 rfl rfl (by decide) rfl ?_
        refine r_goto (pc := 57) (tgt := 20) hc dL_fits_57 (by decide) ?_
        exact o_V.sub (ih _ _ _ _ _ hok hq) [2, 3, 4, 1, 0] rfl
set_option maxHeartbeats 4000000 in
set_option maxRecDepth 100000 in
theorem c_L_fits (l : Launch) (G : Gt)   {σ : Sg} (hok : ok_L_fits  σ) : o_Ci l G yL_fits cL_fits 11 (some .boolean) 7 166 [.ref (gAd G 0)] σ (fun r σ' => r = (f_L_fits  σ).1 ∧ σ' = (f_L_fits  σ).2) := by
  refine o_Ci.of (by decide +kernel) (Nat.le_of_ble_eq_true rfl) ?_
  intro p e s m args below meth c hc hr
  have hq : ∀ q : Int32 × Sg, q = f_L_fits  σ → (fun r σ' => r = (f_L_fits  σ).1 ∧ σ' = (f_L_fits  σ).2) q.1 q.2 := fun q h => ⟨congrArg Prod.fst h, congrArg Prod.snd h⟩
  refine r_aload_n (pc := 0) hc 0 dL_fits_0 rfl rfl ?_
  refine r_iconst (pc := 1) (v := 0) hc dL_fits_1 rfl ?_
  obtain ⟨hs1, hok⟩ := hok
  refine r_callV_i (pc := 2) (as := [.int _]) hc (c_X5_count l _ hs1) kk5 (o_lt hc (by decide)) rfl mV_X5_count kM_L_19 ⟨Nat.le_of_ble_eq_true rfl, Nat.le_of_ble_eq_true rfl⟩ ⟨Nat.le_of_ble_eq_true rfl, Nat.le_of_ble_eq_true rfl⟩ rfl rfl (Nat.le_of_ble_eq_true rfl) dL_fits_2 (fun r σ' h => ?_)
  obtain ⟨rfl, rfl⟩ := h
  refine r_istore_n (pc := 5) (lv' := [(1, _), (0, _)]) hc dL_fits_5 rfl (by decide) rfl ?_
  refine r_aload_n (pc := 6) hc 1 dL_fits_6 rfl rfl ?_
  refine r_iconst (pc := 7) (v := 1) hc dL_fits_7 rfl ?_
  obtain ⟨hs2, hok⟩ := hok
  refine r_callV_i (pc := 8) (as := [.int _]) hc (c_X5_count l _ hs2) kk5 (o_lt hc (by decide)) rfl mV_X5_count kM_L_19 ⟨Nat.le_of_ble_eq_true rfl, Nat.le_of_ble_eq_true rfl⟩ ⟨Nat.le_of_ble_eq_true rfl, Nat.le_of_ble_eq_true rfl⟩ rfl rfl (Nat.le_of_ble_eq_true rfl) dL_fits_8 (fun r σ' h => ?_)
  obtain ⟨rfl, rfl⟩ := h
  refine r_istore_n (pc := 11) (lv' := [(2, _), (1, _), (0, _)]) hc dL_fits_11 rfl (by decide) rfl ?_
  refine r_iconst (pc := 12) (v := 0) hc dL_fits_12 rfl ?_
  refine r_istore_n (pc := 13) (lv' := [(3, _), (2, _), (1, _), (0, _)]) hc dL_fits_13 rfl (by decide) rfl ?_
  refine r_iconst (pc := 14) (v := 0) hc dL_fits_14 rfl ?_
  refine r_istore (pc := 15) (lv' := [(4, _), (3, _), (2, _), (1, _), (0, _)]) hc dL_fits_15 (by decide) rfl ?_
  refine r_iconst (pc := 17) (v := 0) hc dL_fits_17 rfl ?_
  refine r_istore (pc := 18) (lv' := [(5, _), (4, _), (3, _), (2, _), (1, _), (0, _)]) hc dL_fits_18 (by decide) rfl ?_
  exact o_V.sub (t_L_fits_20  hc hr oF _ _ _ _ _ hok hq) [5, 4, 3, 2, 0] rfl
noncomputable def f_L_isTurned_212   (σ : Sg) : Int32 × Sg :=
  (1, σ)
def ok_L_isTurned_212   (σ : Sg) : Prop :=
  True
noncomputable def f_L_isTurned_166  (x1 : Int32) (x2 : Int32) (x3 : Int32) (x4 : Int32) (y0 : Int32) (σ : Sg) : Int32 × Sg :=
  o_ite (y0 = 0) (
    (y0, σ)) (
    o_ite ((f_L_low (x1 >>> (7 &&& 31)) 2 σ) = 0) (
      let q5 := f_X5_turn (-x2) σ
      o_ite (q5.1 = x3) (
        o_ite ((f_X5_count 3 q5.2) = 0) (
          f_L_isTurned_212 q5.2) (
          o_ite ((f_X5_count 2 q5.2) = x4) (
            f_L_isTurned_212 q5.2) (
            (0, q5.2)))) (
        (0, q5.2))) (
      (y0, σ)))
def ok_L_isTurned_166  (x1 : Int32) (x2 : Int32) (x3 : Int32) (x4 : Int32) (y0 : Int32) (σ : Sg) : Prop :=
  ((y0 = 0) →
    (narrow .boolean (.int y0) = .int y0) ∧ (True)) ∧ (¬ (y0 = 0) →
    (ok_L_low (x1 >>> (7 &&& 31)) 2 σ) ∧ ((((f_L_low (x1 >>> (7 &&& 31)) 2 σ) = 0) →
      (ok_X5_turn (-x2) σ) ∧ (let q5 := f_X5_turn (-x2) σ
      ((q5.1 = x3) →
        (ok_X5_count 3 q5.2) ∧ ((((f_X5_count 3 q5.2) = 0) →
          ok_L_isTurned_212 q5.2) ∧ (¬ ((f_X5_count 3 q5.2) = 0) →
          (ok_X5_count 2 q5.2) ∧ ((((f_X5_count 2 q5.2) = x4) →
            ok_L_isTurned_212 q5.2) ∧ (¬ ((f_X5_count 2 q5.2) = x4) →
            True))))) ∧ (¬ (q5.1 = x3) →
        True))) ∧ (¬ ((f_L_low (x1 >>> (7 &&& 31)) 2 σ) = 0) →
      (narrow .boolean (.int y0) = .int y0) ∧ (True))))
noncomputable def f_L_isTurned_165  (x1 : Int32) (x2 : Int32) (x3 : Int32) (x4 : Int32) (σ : Sg) : Int32 × Sg :=
  f_L_isTurned_166 x1 x2 x3 x4 0 σ
def ok_L_isTurned_165  (x1 : Int32) (x2 : Int32) (x3 : Int32) (x4 : Int32) (σ : Sg) : Prop :=
  ok_L_isTurned_166 x1 x2 x3 x4 0 σ
noncomputable def f_L_isTurned_161  (x1 : Int32) (x2 : Int32) (x3 : Int32) (x4 : Int32) (σ : Sg) : Int32 × Sg :=
  f_L_isTurned_166 x1 x2 x3 x4 1 σ
def ok_L_isTurned_161  (x1 : Int32) (x2 : Int32) (x3 : Int32) (x4 : Int32) (σ : Sg) : Prop :=
  ok_L_isTurned_166 x1 x2 x3 x4 1 σ
noncomputable def f_L_isTurned_124  (x1 : Int32) (x2 : Int32) (x3 : Int32) (x4 : Int32) (y0 : Int32) (y1 : Int32) (y2 : Int32) (σ : Sg) : Int32 × Sg :=
  o_ite (y2 = (f_L_least y1 y0 σ)) (
    f_L_isTurned_161 x1 x2 x3 x4 σ) (
    f_L_isTurned_165 x1 x2 x3 x4 σ)
def ok_L_isTurned_124  (x1 : Int32) (x2 : Int32) (x3 : Int32) (x4 : Int32) (y0 : Int32) (y1 : Int32) (y2 : Int32) (σ : Sg) : Prop :=
  (ok_L_least y1 y0 σ) ∧ (((y2 = (f_L_least y1 y0 σ)) →
    ok_L_isTurned_161 x1 x2 x3 x4 σ) ∧ (¬ (y2 = (f_L_least y1 y0 σ)) →
    ok_L_isTurned_165 x1 x2 x3 x4 σ))
noncomputable def f_L_isTurned (p1 : Int32) (σ : Sg) : Int32 × Sg :=
  let q6 := f_X5_turn ((f_L_low p1 19999 σ) - 9999) σ
  o_ite (0 ≤ q6.1) (
    o_ite (q6.1 = ((f_X5_count 0 σ) + ((f_L_low p1 19999 σ) - 9999))) (
      o_ite ((f_X5_count 3 q6.2) = 0) (
        o_ite (0 ≤ ((q6.1 / 1020) - ((f_X5_count 0 σ) / 1020))) (
          f_L_isTurned_124 p1 ((f_L_low p1 19999 σ) - 9999) (f_X5_count 0 σ) (f_X5_count 2 σ) ((q6.1 / 1020) - ((f_X5_count 0 σ) / 1020)) (f_X5_count 4 σ) ((f_X5_count 4 σ) - (f_X5_count 4 q6.2)) q6.2) (
          f_L_isTurned_124 p1 ((f_L_low p1 19999 σ) - 9999) (f_X5_count 0 σ) (f_X5_count 2 σ) (-((q6.1 / 1020) - ((f_X5_count 0 σ) / 1020))) (f_X5_count 4 σ) ((f_X5_count 4 σ) - (f_X5_count 4 q6.2)) q6.2)) (
        o_ite ((f_X5_count 4 q6.2) = (f_X5_count 4 σ)) (
          let r11 := f_L_rest ((f_X5_count 2 σ) + ((q6.1 / 1020) - ((f_X5_count 0 σ) / 1020))) 64 q6.2
          o_ite ((f_X5_count 2 q6.2) = r11) (
            f_L_isTurned_161 p1 ((f_L_low p1 19999 σ) - 9999) (f_X5_count 0 σ) (f_X5_count 2 σ) q6.2) (
            f_L_isTurned_165 p1 ((f_L_low p1 19999 σ) - 9999) (f_X5_count 0 σ) (f_X5_count 2 σ) q6.2)) (
          f_L_isTurned_165 p1 ((f_L_low p1 19999 σ) - 9999) (f_X5_count 0 σ) (f_X5_count 2 σ) q6.2))) (
      f_L_isTurned_165 p1 ((f_L_low p1 19999 σ) - 9999) (f_X5_count 0 σ) (f_X5_count 2 σ) q6.2)) (
    o_ite (q6.1 = (-2)) (
      o_ite (((f_X5_count 0 σ) + ((f_L_low p1 19999 σ) - 9999)) < 0) (
        (1, q6.2)) (
        o_ite (((f_X5_count 0 σ) + ((f_L_low p1 19999 σ) - 9999)) ≤ 65279) (
          (0, q6.2)) (
          (1, q6.2)))) (
      (0, q6.2)))
def ok_L_isTurned (p1 : Int32) (σ : Sg) : Prop :=
  (ok_L_low p1 19999 σ) ∧ ((ok_X5_count 0 σ) ∧ ((ok_X5_count 2 σ) ∧ ((ok_X5_count 4 σ) ∧ ((ok_X5_turn ((f_L_low p1 19999 σ) - 9999) σ) ∧ (let q6 := f_X5_turn ((f_L_low p1 19999 σ) - 9999) σ
  ((0 ≤ q6.1) →
    ((q6.1 = ((f_X5_count 0 σ) + ((f_L_low p1 19999 σ) - 9999))) →
      (ok_X5_count 3 q6.2) ∧ ((((f_X5_count 3 q6.2) = 0) →
        (ok_X5_count 4 q6.2) ∧ (((0 ≤ ((q6.1 / 1020) - ((f_X5_count 0 σ) / 1020))) →
          ok_L_isTurned_124 p1 ((f_L_low p1 19999 σ) - 9999) (f_X5_count 0 σ) (f_X5_count 2 σ) ((q6.1 / 1020) - ((f_X5_count 0 σ) / 1020)) (f_X5_count 4 σ) ((f_X5_count 4 σ) - (f_X5_count 4 q6.2)) q6.2) ∧ (¬ (0 ≤ ((q6.1 / 1020) - ((f_X5_count 0 σ) / 1020))) →
          ok_L_isTurned_124 p1 ((f_L_low p1 19999 σ) - 9999) (f_X5_count 0 σ) (f_X5_count 2 σ) (-((q6.1 / 1020) - ((f_X5_count 0 σ) / 1020))) (f_X5_count 4 σ) ((f_X5_count 4 σ) - (f_X5_count 4 q6.2)) q6.2))) ∧ (¬ ((f_X5_count 3 q6.2) = 0) →
        (ok_X5_count 4 q6.2) ∧ ((((f_X5_count 4 q6.2) = (f_X5_count 4 σ)) →
          (ok_X5_count 2 q6.2) ∧ ((ok_L_rest ((f_X5_count 2 σ) + ((q6.1 / 1020) - ((f_X5_count 0 σ) / 1020))) 64 q6.2) ∧ (let r11 := f_L_rest ((f_X5_count 2 σ) + ((q6.1 / 1020) - ((f_X5_count 0 σ) / 1020))) 64 q6.2
          (((f_X5_count 2 q6.2) = r11) →
            ok_L_isTurned_161 p1 ((f_L_low p1 19999 σ) - 9999) (f_X5_count 0 σ) (f_X5_count 2 σ) q6.2) ∧ (¬ ((f_X5_count 2 q6.2) = r11) →
            ok_L_isTurned_165 p1 ((f_L_low p1 19999 σ) - 9999) (f_X5_count 0 σ) (f_X5_count 2 σ) q6.2)))) ∧ (¬ ((f_X5_count 4 q6.2) = (f_X5_count 4 σ)) →
          ok_L_isTurned_165 p1 ((f_L_low p1 19999 σ) - 9999) (f_X5_count 0 σ) (f_X5_count 2 σ) q6.2))))) ∧ (¬ (q6.1 = ((f_X5_count 0 σ) + ((f_L_low p1 19999 σ) - 9999))) →
      ok_L_isTurned_165 p1 ((f_L_low p1 19999 σ) - 9999) (f_X5_count 0 σ) (f_X5_count 2 σ) q6.2)) ∧ (¬ (0 ≤ q6.1) →
    ((q6.1 = (-2)) →
      ((((f_X5_count 0 σ) + ((f_L_low p1 19999 σ) - 9999)) < 0) →
        True) ∧ (¬ (((f_X5_count 0 σ) + ((f_L_low p1 19999 σ) - 9999)) < 0) →
        ((((f_X5_count 0 σ) + ((f_L_low p1 19999 σ) - 9999)) ≤ 65279) →
          True) ∧ (¬ (((f_X5_count 0 σ) + ((f_L_low p1 19999 σ) - 9999)) ≤ 65279) →
          True))) ∧ (¬ (q6.1 = (-2)) →
      True)))))))
set_option maxHeartbeats 4000000 in
set_option maxRecDepth 100000 in
theorem t_L_isTurned_212 {p : Program} {l : Launch} {e : Env} {s : State} {m : MethodId} {args : Array Value} {below : List Frame} {meth : Method} {c : Code} {G : Gt} {post : Int32 → Sg → Prop}   (hc : o_Cx p s m args meth c G cL_isTurned yL_isTurned.cls 9) (hr : meth.sig.returnType = (some .boolean))  {σ : Sg} (hok : ok_L_isTurned_212   σ) (hq : ∀ q : Int32 × Sg, q = f_L_isTurned_212   σ → post q.1 q.2) : o_V p l e { frames := 4, cells := 0, slots := 0, locals := 91 } s m args below meth c (MQ below (va_Qi post (fun σ' t => o_W G σ' t.heap) (o_A G)) args s 0 0 (o_A G)) G 0 0 9 σ 212 [] [] := by
  refine r_iconst (pc := 212) (v := 1) hc dL_isTurned_212 rfl ?_
  refine r_goto (pc := 213) (tgt := 217) hc dL_isTurned_213 (by decide) ?_
  refine r_istore (pc := 217) (lv' := [(8, _)]) hc dL_isTurned_217 (by decide) rfl ?_
  refine r_iload (pc := 219) hc 0 dL_isTurned_219 rfl ?_
  exact r_iret hc hr rfl dL_isTurned_221 (hq (_, _) rfl)
set_option maxHeartbeats 4000000 in
set_option maxRecDepth 100000 in
theorem t_L_isTurned_166 {p : Program} {l : Launch} {e : Env} {s : State} {m : MethodId} {args : Array Value} {below : List Frame} {meth : Method} {c : Code} {G : Gt} {post : Int32 → Sg → Prop}   (hc : o_Cx p s m args meth c G cL_isTurned yL_isTurned.cls 9) (hr : meth.sig.returnType = (some .boolean)) {x1 : Int32} {x2 : Int32} {x3 : Int32} {x4 : Int32} {y0 : Int32} {σ : Sg} (hok : ok_L_isTurned_166  x1 x2 x3 x4 y0 σ) (hq : ∀ q : Int32 × Sg, q = f_L_isTurned_166  x1 x2 x3 x4 y0 σ → post q.1 q.2) : o_V p l e { frames := 4, cells := 0, slots := 0, locals := 91 } s m args below meth c (MQ below (va_Qi post (fun σ' t => o_W G σ' t.heap) (o_A G)) args s 0 0 (o_A G)) G 0 0 9 σ 166 [(0, .ref (gAd G 0)), (1, .int x1), (2, .int x2), (3, .int x3), (4, .int x4)] [.int y0] := by
  refine r_istore (pc := 166) (lv' := [(8, _), (0, _), (1, _), (2, _), (3, _), (4, _)]) hc dL_isTurned_166 (by decide) rfl ?_
  refine r_iload (pc := 168) hc 0 dL_isTurned_168 rfl ?_
  refine r_if_eq (pc := 170) (tgt := 219) hc dL_isTurned_170 (by decide) (fun c170 => ?_) (fun c170 => ?_)
  · have hok := hok.1 c170
    have hq := o_qp hq c170
    refine r_iload (pc := 219) hc 0 dL_isTurned_219 rfl ?_
    obtain ⟨hs1, hok⟩ := hok
    exact r_iret hc hr hs1 dL_isTurned_221 (hq (_, _) rfl)
  · have hok := hok.2 c170
    have hq := o_qn hq c170
    refine r_iload_n (pc := 173) hc 2 dL_isTurned_173 rfl rfl ?_
    refine r_bipush (pc := 174) (v := 7) hc dL_isTurned_174 (by decide) ?_
    refine r_ishr (pc := 176) hc dL_isTurned_176 ?_
    refine r_iconst (pc := 177) (v := 2) hc dL_isTurned_177 rfl ?_
    obtain ⟨hs2, hok⟩ := hok
    refine r_callS_i (pc := 178) (as := [.int _, .int _]) hc (c_L_low l _ hs2) mS_L_low kM_L_106 ⟨Nat.le_of_ble_eq_true rfl, Nat.le_of_ble_eq_true rfl⟩ ⟨Nat.le_of_ble_eq_true rfl, Nat.le_of_ble_eq_true rfl⟩ rfl rfl (Nat.le_of_ble_eq_true rfl) dL_isTurned_178 (fun r σ' h => ?_)
    obtain ⟨rfl, rfl⟩ := h
    refine r_if_ne (pc := 181) (tgt := 219) hc dL_isTurned_181 (by decide) (fun c181 => ?_) (fun c181 => ?_)
    · have hok := hok.2 c181
      have hq := o_qn hq c181
      refine r_iload (pc := 219) hc 0 dL_isTurned_219 rfl ?_
      obtain ⟨hs3, hok⟩ := hok
      exact r_iret hc hr hs3 dL_isTurned_221 (hq (_, _) rfl)
    · have hok := hok.1 c181
      have hq := o_qp hq c181
      refine r_aload_n (pc := 184) hc 1 dL_isTurned_184 rfl rfl ?_
      refine r_iload_n (pc := 185) hc 3 dL_isTurned_185 rfl rfl ?_
      refine r_ineg (pc := 186) hc dL_isTurned_186 ?_
      obtain ⟨hs4, hok⟩ := hok
      refine r_callV_i (pc := 187) (as := [.int _]) hc (c_X5_turn l _ hs4) kk5 (o_lt hc (by decide)) rfl mV_X5_turn kM_L_41 ⟨Nat.le_of_ble_eq_true rfl, Nat.le_of_ble_eq_true rfl⟩ ⟨Nat.le_of_ble_eq_true rfl, Nat.le_of_ble_eq_true rfl⟩ rfl rfl (Nat.le_of_ble_eq_true rfl) dL_isTurned_187 (fun r σ' h => ?_)
      obtain ⟨rfl, rfl⟩ := h
      refine r_iload_n (pc := 190) hc 4 dL_isTurned_190 rfl rfl ?_
      refine r_icmp_ne (pc := 191) (tgt := 216) hc dL_isTurned_191 (by decide) (fun c191 => ?_) (fun c191 => ?_)
      · have hok := hok.2 c191
        have hq := o_qn hq c191
        refine r_iconst (pc := 216) (v := 0) hc dL_isTurned_216 rfl ?_
        refine r_istore (pc := 217) (lv' := [(8, _), (0, _), (1, _), (2, _), (3, _), (4, _)]) hc dL_isTurned_217 (by decide) rfl ?_
        refine r_iload (pc := 219) hc 0 dL_isTurned_219 rfl ?_
        exact r_iret hc hr rfl dL_isTurned_221 (hq (_, _) rfl)
      · have hok := hok.1 c191
        have hq := o_qp hq c191
        refine r_aload_n (pc := 194) hc 1 dL_isTurned_194 rfl rfl ?_
        refine r_iconst (pc := 195) (v := 3) hc dL_isTurned_195 rfl ?_
        obtain ⟨hs6, hok⟩ := hok
        refine r_callV_i (pc := 196) (as := [.int _]) hc (c_X5_count l _ hs6) kk5 (o_lt hc (by decide)) rfl mV_X5_count kM_L_19 ⟨Nat.le_of_ble_eq_true rfl, Nat.le_of_ble_eq_true rfl⟩ ⟨Nat.le_of_ble_eq_true rfl, Nat.le_of_ble_eq_true rfl⟩ rfl rfl (Nat.le_of_ble_eq_true rfl) dL_isTurned_196 (fun r σ' h => ?_)
        obtain ⟨rfl, rfl⟩ := h
        refine r_if_eq (pc := 199) (tgt := 212) hc dL_isTurned_199 (by decide) (fun c199 => ?_) (fun c199 => ?_)
        · have hok := hok.1 c199
          have hq := o_qp hq c199
          exact o_V.sub (t_L_isTurned_212  hc hr hok hq) [] rfl
        · have hok := hok.2 c199
          have hq := o_qn hq c199
          refine r_aload_n (pc := 202) hc 1 dL_isTurned_202 rfl rfl ?_
          refine r_iconst (pc := 203) (v := 2) hc dL_isTurned_203 rfl ?_
          obtain ⟨hs7, hok⟩ := hok
          refine r_callV_i (pc := 204) (as := [.int _]) hc (c_X5_count l _ hs7) kk5 (o_lt hc (by decide)) rfl mV_X5_count kM_L_19 ⟨Nat.le_of_ble_eq_true rfl, Nat.le_of_ble_eq_true rfl⟩ ⟨Nat.le_of_ble_eq_true rfl, Nat.le_of_ble_eq_true rfl⟩ rfl rfl (Nat.le_of_ble_eq_true rfl) dL_isTurned_204 (fun r σ' h => ?_)
          obtain ⟨rfl, rfl⟩ := h
          refine r_iload (pc := 207) hc 5 dL_isTurned_207 rfl ?_
          refine r_icmp_ne (pc := 209) (tgt := 216) hc dL_isTurned_209 (by decide) (fun c209 => ?_) (fun c209 => ?_)
          · have hok := hok.2 c209
            have hq := o_qn hq c209
            refine r_iconst (pc := 216) (v := 0) hc dL_isTurned_216 rfl ?_
            refine r_istore (pc := 217) (lv' := [(8, _), (0, _), (1, _), (2, _), (3, _), (4, _)]) hc dL_isTurned_217 (by decide) rfl ?_
            refine r_iload (pc := 219) hc 0 dL_isTurned_219 rfl ?_
            exact r_iret hc hr rfl dL_isTurned_221 (hq (_, _) rfl)
          · have hok := hok.1 c209
            have hq := o_qp hq c209
            exact o_V.sub (t_L_isTurned_212  hc hr hok hq) [] rfl
set_option maxHeartbeats 4000000 in
set_option maxRecDepth 100000 in
theorem t_L_isTurned_165 {p : Program} {l : Launch} {e : Env} {s : State} {m : MethodId} {args : Array Value} {below : List Frame} {meth : Method} {c : Code} {G : Gt} {post : Int32 → Sg → Prop}   (hc : o_Cx p s m args meth c G cL_isTurned yL_isTurned.cls 9) (hr : meth.sig.returnType = (some .boolean)) {x1 : Int32} {x2 : Int32} {x3 : Int32} {x4 : Int32} {σ : Sg} (hok : ok_L_isTurned_165  x1 x2 x3 x4 σ) (hq : ∀ q : Int32 × Sg, q = f_L_isTurned_165  x1 x2 x3 x4 σ → post q.1 q.2) : o_V p l e { frames := 4, cells := 0, slots := 0, locals := 91 } s m args below meth c (MQ below (va_Qi post (fun σ' t => o_W G σ' t.heap) (o_A G)) args s 0 0 (o_A G)) G 0 0 9 σ 165 [(0, .ref (gAd G 0)), (1, .int x1), (2, .int x2), (3, .int x3), (4, .int x4)] [] := by
  refine r_iconst (pc := 165) (v := 0) hc dL_isTurned_165 rfl ?_
  exact o_V.sub (t_L_isTurned_166  hc hr hok hq) [0, 1, 2, 3, 4] rfl
set_option maxHeartbeats 4000000 in
set_option maxRecDepth 100000 in
theorem t_L_isTurned_161 {p : Program} {l : Launch} {e : Env} {s : State} {m : MethodId} {args : Array Value} {below : List Frame} {meth : Method} {c : Code} {G : Gt} {post : Int32 → Sg → Prop}   (hc : o_Cx p s m args meth c G cL_isTurned yL_isTurned.cls 9) (hr : meth.sig.returnType = (some .boolean)) {x1 : Int32} {x2 : Int32} {x3 : Int32} {x4 : Int32} {σ : Sg} (hok : ok_L_isTurned_161  x1 x2 x3 x4 σ) (hq : ∀ q : Int32 × Sg, q = f_L_isTurned_161  x1 x2 x3 x4 σ → post q.1 q.2) : o_V p l e { frames := 4, cells := 0, slots := 0, locals := 91 } s m args below meth c (MQ below (va_Qi post (fun σ' t => o_W G σ' t.heap) (o_A G)) args s 0 0 (o_A G)) G 0 0 9 σ 161 [(0, .ref (gAd G 0)), (1, .int x1), (2, .int x2), (3, .int x3), (4, .int x4)] [] := by
  refine r_iconst (pc := 161) (v := 1) hc dL_isTurned_161 rfl ?_
  refine r_goto (pc := 162) (tgt := 166) hc dL_isTurned_162 (by decide) ?_
  exact o_V.sub (t_L_isTurned_166  hc hr hok hq) [0, 1, 2, 3, 4] rfl
set_option maxHeartbeats 4000000 in
set_option maxRecDepth 100000 in
theorem t_L_isTurned_124 {p : Program} {l : Launch} {e : Env} {s : State} {m : MethodId} {args : Array Value} {below : List Frame} {meth : Method} {c : Code} {G : Gt} {post : Int32 → Sg → Prop}   (hc : o_Cx p s m args meth c G cL_isTurned yL_isTurned.cls 9) (hr : meth.sig.returnType = (some .boolean)) {x1 : Int32} {x2 : Int32} {x3 : Int32} {x4 : Int32} {y0 : Int32} {y1 : Int32} {y2 : Int32} {σ : Sg} (hok : ok_L_isTurned_124  x1 x2 x3 x4 y0 y1 y2 σ) (hq : ∀ q : Int32 × Sg, q = f_L_isTurned_124  x1 x2 x3 x4 y0 y1 y2 σ → post q.1 q.2) : o_V p l e { frames := 4, cells := 0, slots := 0, locals := 91 } s m args below meth c (MQ below (va_Qi post (fun σ' t => o_W G σ' t.heap) (o_A G)) args s 0 0 (o_A G)) G 0 0 9 σ 124 [(0, .ref (gAd G 0)), (1, .int x1), (2, .int x2), (3, .int x3), (4, .int x4)] [.int y0, .int y1, .int y2] := by
  obtain ⟨hs1, hok⟩ := hok
  refine r_callS_i (pc := 124) (as := [.int _, .int _]) hc (c_L_least l _ hs1) mS_L_least kM_L_110 ⟨Nat.le_of_ble_eq_true rfl, Nat.le_of_ble_eq_true rfl⟩ ⟨Nat.le_of_ble_eq_true rfl, Nat.le_of_ble_eq_true rfl⟩ rfl rfl (Nat.le_of_ble_eq_true rfl) dL_isTurned_124 (fun r σ' h => ?_)
  obtain ⟨rfl, rfl⟩ := h
  refine r_icmp_ne (pc := 127) (tgt := 165) hc dL_isTurned_127 (by decide) (fun c127 => ?_) (fun c127 => ?_)
  · have hok := hok.2 c127
    have hq := o_qn hq c127
    exact o_V.sub (t_L_isTurned_165  hc hr hok hq) [0, 1, 2, 3, 4] rfl
  · have hok := hok.1 c127
    have hq := o_qp hq c127
    refine r_goto (pc := 130) (tgt := 161) hc dL_isTurned_130 (by decide) ?_
    exact o_V.sub (t_L_isTurned_161  hc hr hok hq) [0, 1, 2, 3, 4] rfl
set_option maxHeartbeats 4000000 in
set_option maxRecDepth 100000 in
theorem c_L_isTurned (l : Launch) (G : Gt) {p1 : Int32}  {σ : Sg} (hok : ok_L_isTurned p1 σ) : o_Ci l G yL_isTurned cL_isTurned 9 (some .boolean) 4 91 [.ref (gAd G 0), .int p1] σ (fun r σ' => r = (f_L_isTurned p1 σ).1 ∧ σ' = (f_L_isTurned p1 σ).2) := by
  refine o_Ci.of (by decide +kernel) (Nat.le_of_ble_eq_true rfl) ?_
  intro p e s m args below meth c hc hr
  have hq : ∀ q : Int32 × Sg, q = f_L_isTurned p1 σ → (fun r σ' => r = (f_L_isTurned p1 σ).1 ∧ σ' = (f_L_isTurned p1 σ).2) q.1 q.2 := fun q h => ⟨congrArg Prod.fst h, congrArg Prod.snd h⟩
  refine r_iload_n (pc := 0) hc 1 dL_isTurned_0 rfl rfl ?_
  refine r_sipush (pc := 1) (v := 19999) hc dL_isTurned_1 (by decide) ?_
  obtain ⟨hs1, hok⟩ := hok
  refine r_callS_i (pc := 4) (as := [.int _, .int _]) hc (c_L_low l _ hs1) mS_L_low kM_L_106 ⟨Nat.le_of_ble_eq_true rfl, Nat.le_of_ble_eq_true rfl⟩ ⟨Nat.le_of_ble_eq_true rfl, Nat.le_of_ble_eq_true rfl⟩ rfl rfl (Nat.le_of_ble_eq_true rfl) dL_isTurned_4 (fun r σ' h => ?_)
  obtain ⟨rfl, rfl⟩ := h
  refine r_sipush (pc := 7) (v := 9999) hc dL_isTurned_7 (by decide) ?_
  refine r_isub (pc := 10) hc dL_isTurned_10 ?_
  refine r_istore_n (pc := 11) (lv' := [(2, _), (0, _), (1, _)]) hc dL_isTurned_11 rfl (by decide) rfl ?_
  refine r_aload_n (pc := 12) hc 1 dL_isTurned_12 rfl rfl ?_
  refine r_iconst (pc := 13) (v := 0) hc dL_isTurned_13 rfl ?_
  obtain ⟨hs2, hok⟩ := hok
  refine r_callV_i (pc := 14) (as := [.int _]) hc (c_X5_count l _ hs2) kk5 (o_lt hc (by decide)) rfl mV_X5_count kM_L_19 ⟨Nat.le_of_ble_eq_true rfl, Nat.le_of_ble_eq_true rfl⟩ ⟨Nat.le_of_ble_eq_true rfl, Nat.le_of_ble_eq_true rfl⟩ rfl rfl (Nat.le_of_ble_eq_true rfl) dL_isTurned_14 (fun r σ' h => ?_)
  obtain ⟨rfl, rfl⟩ := h
  refine r_istore_n (pc := 17) (lv' := [(3, _), (2, _), (0, _), (1, _)]) hc dL_isTurned_17 rfl (by decide) rfl ?_
  refine r_aload_n (pc := 18) hc 2 dL_isTurned_18 rfl rfl ?_
  refine r_iconst (pc := 19) (v := 2) hc dL_isTurned_19 rfl ?_
  obtain ⟨hs3, hok⟩ := hok
  refine r_callV_i (pc := 20) (as := [.int _]) hc (c_X5_count l _ hs3) kk5 (o_lt hc (by decide)) rfl mV_X5_count kM_L_19 ⟨Nat.le_of_ble_eq_true rfl, Nat.le_of_ble_eq_true rfl⟩ ⟨Nat.le_of_ble_eq_true rfl, Nat.le_of_ble_eq_true rfl⟩ rfl rfl (Nat.le_of_ble_eq_true rfl) dL_isTurned_20 (fun r σ' h => ?_)
  obtain ⟨rfl, rfl⟩ := h
  refine r_istore (pc := 23) (lv' := [(4, _), (3, _), (2, _), (0, _), (1, _)]) hc dL_isTurned_23 (by decide) rfl ?_
  refine r_aload_n (pc := 25) hc 3 dL_isTurned_25 rfl rfl ?_
  refine r_iconst (pc := 26) (v := 4) hc dL_isTurned_26 rfl ?_
  obtain ⟨hs4, hok⟩ := hok
  refine r_callV_i (pc := 27) (as := [.int _]) hc (c_X5_count l _ hs4) kk5 (o_lt hc (by decide)) rfl mV_X5_count kM_L_19 ⟨Nat.le_of_ble_eq_true rfl, Nat.le_of_ble_eq_true rfl⟩ ⟨Nat.le_of_ble_eq_true rfl, Nat.le_of_ble_eq_true rfl⟩ rfl rfl (Nat.le_of_ble_eq_true rfl) dL_isTurned_27 (fun r σ' h => ?_)
  obtain ⟨rfl, rfl⟩ := h
  refine r_istore (pc := 30) (lv' := [(5, _), (4, _), (3, _), (2, _), (0, _), (1, _)]) hc dL_isTurned_30 (by decide) rfl ?_
  refine r_aload_n (pc := 32) hc 4 dL_isTurned_32 rfl rfl ?_
  refine r_iload_n (pc := 33) hc 3 dL_isTurned_33 rfl rfl ?_
  obtain ⟨hs5, hok⟩ := hok
  refine r_callV_i (pc := 34) (as := [.int _]) hc (c_X5_turn l _ hs5) kk5 (o_lt hc (by decide)) rfl mV_X5_turn kM_L_41 ⟨Nat.le_of_ble_eq_true rfl, Nat.le_of_ble_eq_true rfl⟩ ⟨Nat.le_of_ble_eq_true rfl, Nat.le_of_ble_eq_true rfl⟩ rfl rfl (Nat.le_of_ble_eq_true rfl) dL_isTurned_34 (fun r σ' h => ?_)
  obtain ⟨rfl, rfl⟩ := h
  refine r_istore (pc := 37) (lv' := [(6, _), (5, _), (4, _), (3, _), (2, _), (0, _), (1, _)]) hc dL_isTurned_37 (by decide) rfl ?_
  refine r_iload (pc := 39) hc 0 dL_isTurned_39 rfl ?_
  refine r_if_ge (pc := 41) (tgt := 71) hc dL_isTurned_41 (by decide) (fun c41 => ?_) (fun c41 => ?_)
  · have hok := hok.1 c41
    have hq := o_qp hq c41
    refine r_iload (pc := 71) hc 0 dL_isTurned_71 rfl ?_
    refine r_sipush (pc := 73) (v := 1020) hc dL_isTurned_73 (by decide) ?_
    refine r_idiv (pc := 76) hc dL_isTurned_76 (by decide) ?_
    refine r_iload_n (pc := 77) hc 3 dL_isTurned_77 rfl rfl ?_
    refine r_sipush (pc := 78) (v := 1020) hc dL_isTurned_78 (by decide) ?_
    refine r_idiv (pc := 81) hc dL_isTurned_81 (by decide) ?_
    refine r_isub (pc := 82) hc dL_isTurned_82 ?_
    refine r_istore (pc := 83) (lv' := [(7, _), (6, _), (5, _), (4, _), (3, _), (2, _), (0, _), (1, _)]) hc dL_isTurned_83 (by decide) rfl ?_
    refine r_iload (pc := 85) hc 1 dL_isTurned_85 rfl ?_
    refine r_iload_n (pc := 87) hc 4 dL_isTurned_87 rfl rfl ?_
    refine r_iload_n (pc := 88) hc 5 dL_isTurned_88 rfl rfl ?_
    refine r_iadd (pc := 89) hc dL_isTurned_89 ?_
    refine r_icmp_ne (pc := 90) (tgt := 165) hc dL_isTurned_90 (by decide) (fun c90 => ?_) (fun c90 => ?_)
    · have hok := hok.2 c90
      have hq := o_qn hq c90
      exact o_V.sub (t_L_isTurned_165  hc hr hok hq) [6, 7, 5, 4, 3] rfl
    · have hok := hok.1 c90
      have hq := o_qp hq c90
      refine r_aload_n (pc := 93) hc 6 dL_isTurned_93 rfl rfl ?_
      refine r_iconst (pc := 94) (v := 3) hc dL_isTurned_94 rfl ?_
      obtain ⟨hs7, hok⟩ := hok
      refine r_callV_i (pc := 95) (as := [.int _]) hc (c_X5_count l _ hs7) kk5 (o_lt hc (by decide)) rfl mV_X5_count kM_L_19 ⟨Nat.le_of_ble_eq_true rfl, Nat.le_of_ble_eq_true rfl⟩ ⟨Nat.le_of_ble_eq_true rfl, Nat.le_of_ble_eq_true rfl⟩ rfl rfl (Nat.le_of_ble_eq_true rfl) dL_isTurned_95 (fun r σ' h => ?_)
      obtain ⟨rfl, rfl⟩ := h
      refine r_if_ne (pc := 98) (tgt := 133) hc dL_isTurned_98 (by decide) (fun c98 => ?_) (fun c98 => ?_)
      · have hok := hok.2 c98
        have hq := o_qn hq c98
        refine r_aload_n (pc := 133) hc 6 dL_isTurned_133 rfl rfl ?_
        refine r_iconst (pc := 134) (v := 4) hc dL_isTurned_134 rfl ?_
        obtain ⟨hs8, hok⟩ := hok
        refine r_callV_i (pc := 135) (as := [.int _]) hc (c_X5_count l _ hs8) kk5 (o_lt hc (by decide)) rfl mV_X5_count kM_L_19 ⟨Nat.le_of_ble_eq_true rfl, Nat.le_of_ble_eq_true rfl⟩ ⟨Nat.le_of_ble_eq_true rfl, Nat.le_of_ble_eq_true rfl⟩ rfl rfl (Nat.le_of_ble_eq_true rfl) dL_isTurned_135 (fun r σ' h => ?_)
        obtain ⟨rfl, rfl⟩ := h
        refine r_iload (pc := 138) hc 2 dL_isTurned_138 rfl ?_
        refine r_icmp_ne (pc := 140) (tgt := 165) hc dL_isTurned_140 (by decide) (fun c140 => ?_) (fun c140 => ?_)
        · have hok := hok.2 c140
          have hq := o_qn hq c140
          exact o_V.sub (t_L_isTurned_165  hc hr hok hq) [6, 7, 5, 4, 3] rfl
        · have hok := hok.1 c140
          have hq := o_qp hq c140
          refine r_aload_n (pc := 143) hc 6 dL_isTurned_143 rfl rfl ?_
          refine r_iconst (pc := 144) (v := 2) hc dL_isTurned_144 rfl ?_
          obtain ⟨hs9, hok⟩ := hok
          refine r_callV_i (pc := 145) (as := [.int _]) hc (c_X5_count l _ hs9) kk5 (o_lt hc (by decide)) rfl mV_X5_count kM_L_19 ⟨Nat.le_of_ble_eq_true rfl, Nat.le_of_ble_eq_true rfl⟩ ⟨Nat.le_of_ble_eq_true rfl, Nat.le_of_ble_eq_true rfl⟩ rfl rfl (Nat.le_of_ble_eq_true rfl) dL_isTurned_145 (fun r σ' h => ?_)
          obtain ⟨rfl, rfl⟩ := h
          refine r_iload (pc := 148) hc 3 dL_isTurned_148 rfl ?_
          refine r_iload (pc := 150) hc 0 dL_isTurned_150 rfl ?_
          refine r_iadd (pc := 152) hc dL_isTurned_152 ?_
          refine r_bipush (pc := 153) (v := 64) hc dL_isTurned_153 (by decide) ?_
          obtain ⟨hs10, hok⟩ := hok
          refine r_callS_i (pc := 155) (as := [.int _, .int _]) hc (c_L_rest l _ hs10) mS_L_rest kM_L_9 ⟨Nat.le_of_ble_eq_true rfl, Nat.le_of_ble_eq_true rfl⟩ ⟨Nat.le_of_ble_eq_true rfl, Nat.le_of_ble_eq_true rfl⟩ rfl rfl (Nat.le_of_ble_eq_true rfl) dL_isTurned_155 (fun r σ' h => ?_)
          obtain ⟨rfl, rfl⟩ := h
          refine r_icmp_ne (pc := 158) (tgt := 165) hc dL_isTurned_158 (by decide) (fun c158 => ?_) (fun c158 => ?_)
          · have hok := hok.2 c158
            have hq := o_qn hq c158
            exact o_V.sub (t_L_isTurned_165  hc hr hok hq) [6, 7, 5, 4, 3] rfl
          · have hok := hok.1 c158
            have hq := o_qp hq c158
            exact o_V.sub (t_L_isTurned_161  hc hr hok hq) [6, 7, 5, 4, 3] rfl
      · have hok := hok.1 c98
        have hq := o_qp hq c98
        refine r_iload (pc := 101) hc 2 dL_isTurned_101 rfl ?_
        refine r_aload_n (pc := 103) hc 6 dL_isTurned_103 rfl rfl ?_
        refine r_iconst (pc := 104) (v := 4) hc dL_isTurned_104 rfl ?_
        obtain ⟨hs12, hok⟩ := hok
        refine r_callV_i (pc := 105) (as := [.int _]) hc (c_X5_count l _ hs12) kk5 (o_lt hc (by decide)) rfl mV_X5_count kM_L_19 ⟨Nat.le_of_ble_eq_true rfl, Nat.le_of_ble_eq_true rfl⟩ ⟨Nat.le_of_ble_eq_true rfl, Nat.le_of_ble_eq_true rfl⟩ rfl rfl (Nat.le_of_ble_eq_true rfl) dL_isTurned_105 (fun r σ' h => ?_)
        obtain ⟨rfl, rfl⟩ := h
        refine r_isub (pc := 108) hc dL_isTurned_108 ?_
        refine r_iload (pc := 109) hc 2 dL_isTurned_109 rfl ?_
        refine r_iload (pc := 111) hc 0 dL_isTurned_111 rfl ?_
        refine r_if_ge (pc := 113) (tgt := 122) hc dL_isTurned_113 (by decide) (fun c113 => ?_) (fun c113 => ?_)
        · have hok := hok.1 c113
          have hq := o_qp hq c113
          refine r_iload (pc := 122) hc 0 dL_isTurned_122 rfl ?_
          exact o_V.sub (t_L_isTurned_124  hc hr hok hq) [6, 7, 5, 4, 3] rfl
        · have hok := hok.2 c113
          have hq := o_qn hq c113
          refine r_iload (pc := 116) hc 0 dL_isTurned_116 rfl ?_
          refine r_ineg (pc := 118) hc dL_isTurned_118 ?_
          refine r_goto (pc := 119) (tgt := 124) hc dL_isTurned_119 (by decide) ?_
          exact o_V.sub (t_L_isTurned_124  hc hr hok hq) [6, 7, 5, 4, 3] rfl
  · have hok := hok.2 c41
    have hq := o_qn hq c41
    refine r_iload (pc := 44) hc 0 dL_isTurned_44 rfl ?_
    refine r_bipush (pc := 46) (v := (-2)) hc dL_isTurned_46 (by decide) ?_
    refine r_icmp_ne (pc := 48) (tgt := 69) hc dL_isTurned_48 (by decide) (fun c48 => ?_) (fun c48 => ?_)
    · have hok := hok.2 c48
      have hq := o_qn hq c48
      refine r_iconst (pc := 69) (v := 0) hc dL_isTurned_69 rfl ?_
      exact r_iret hc hr rfl dL_isTurned_70 (hq (_, _) rfl)
    · have hok := hok.1 c48
      have hq := o_qp hq c48
      refine r_iload_n (pc := 51) hc 3 dL_isTurned_51 rfl rfl ?_
      refine r_iload_n (pc := 52) hc 4 dL_isTurned_52 rfl rfl ?_
      refine r_iadd (pc := 53) hc dL_isTurned_53 ?_
      refine r_if_lt (pc := 54) (tgt := 65) hc dL_isTurned_54 (by decide) (fun c54 => ?_) (fun c54 => ?_)
      · have hok := hok.1 c54
        have hq := o_qp hq c54
        refine r_iconst (pc := 65) (v := 1) hc dL_isTurned_65 rfl ?_
        refine r_goto (pc := 66) (tgt := 70) hc dL_isTurned_66 (by decide) ?_
        exact r_iret hc hr rfl dL_isTurned_70 (hq (_, _) rfl)
      · have hok := hok.2 c54
        have hq := o_qn hq c54
        refine r_iload_n (pc := 57) hc 3 dL_isTurned_57 rfl rfl ?_
        refine r_iload_n (pc := 58) hc 4 dL_isTurned_58 rfl rfl ?_
        refine r_iadd (pc := 59) hc dL_isTurned_59 ?_
        refine r_ldc (pc := 60) (v := 65279) hc kK_L_109 dL_isTurned_60 ?_
        refine r_icmp_le (pc := 62) (tgt := 69) hc dL_isTurned_62 (by decide) (fun c62 => ?_) (fun c62 => ?_)
        · have hok := hok.1 c62
          have hq := o_qp hq c62
          refine r_iconst (pc := 69) (v := 0) hc dL_isTurned_69 rfl ?_
          exact r_iret hc hr rfl dL_isTurned_70 (hq (_, _) rfl)
        · have hok := hok.2 c62
          have hq := o_qn hq c62
          refine r_iconst (pc := 65) (v := 1) hc dL_isTurned_65 rfl ?_
          refine r_goto (pc := 66) (tgt := 70) hc dL_isTurned_66 (by decide) ?_
          exact r_iret hc hr rfl dL_isTurned_70 (hq (_, _) rfl)
noncomputable def f_L_isSampled_378  (x1 : Int32) (x5 : Int32) (x12 : Int32) (y0 : Int32) (σ : Sg) : Int32 × Sg :=
  o_ite (y0 = 0) (
    (0, σ)) (
    o_ite (x1 = 0) (
      o_ite ((f_X5_count 6 σ) = x12) (
        o_ite (x5 = (-4)) (
          (1, σ)) (
          o_ite ((f_X5_count 22 σ) < (f_L_near (x12 - x5) 65280 σ)) (
            (0, σ)) (
            (1, σ)))) (
        (0, σ))) (
      o_ite ((f_X5_count 6 σ) = x5) (
        o_ite (x1 = 3) (
          (1, σ)) (
          o_ite ((f_L_near (x12 - x5) 65280 σ) ≤ (f_X5_count 22 σ)) (
            (0, σ)) (
            (1, σ)))) (
        (0, σ))))
def ok_L_isSampled_378  (x1 : Int32) (x5 : Int32) (x12 : Int32) (y0 : Int32) (σ : Sg) : Prop :=
  ((y0 = 0) →
    True) ∧ (¬ (y0 = 0) →
    ((x1 = 0) →
      (ok_X5_count 6 σ) ∧ ((((f_X5_count 6 σ) = x12) →
        ((x5 = (-4)) →
          True) ∧ (¬ (x5 = (-4)) →
          (ok_L_near (x12 - x5) 65280 σ) ∧ ((ok_X5_count 22 σ) ∧ ((((f_X5_count 22 σ) < (f_L_near (x12 - x5) 65280 σ)) →
            True) ∧ (¬ ((f_X5_count 22 σ) < (f_L_near (x12 - x5) 65280 σ)) →
            True))))) ∧ (¬ ((f_X5_count 6 σ) = x12) →
        True))) ∧ (¬ (x1 = 0) →
      (ok_X5_count 6 σ) ∧ ((((f_X5_count 6 σ) = x5) →
        ((x1 = 3) →
          True) ∧ (¬ (x1 = 3) →
          (ok_L_near (x12 - x5) 65280 σ) ∧ ((ok_X5_count 22 σ) ∧ ((((f_L_near (x12 - x5) 65280 σ) ≤ (f_X5_count 22 σ)) →
            True) ∧ (¬ ((f_L_near (x12 - x5) 65280 σ) ≤ (f_X5_count 22 σ)) →
            True))))) ∧ (¬ ((f_X5_count 6 σ) = x5) →
        True))))
noncomputable def f_L_isSampled_377  (x1 : Int32) (x5 : Int32) (x12 : Int32) (σ : Sg) : Int32 × Sg :=
  f_L_isSampled_378 x1 x5 x12 0 σ
def ok_L_isSampled_377  (x1 : Int32) (x5 : Int32) (x12 : Int32) (σ : Sg) : Prop :=
  ok_L_isSampled_378 x1 x5 x12 0 σ
noncomputable def f_L_isSampled_370  (x1 : Int32) (x5 : Int32) (x12 : Int32) (y0 : Int32) (y1 : Int32) (σ : Sg) : Int32 × Sg :=
  o_ite (y1 = y0) (
    f_L_isSampled_378 x1 x5 x12 1 σ) (
    f_L_isSampled_377 x1 x5 x12 σ)
def ok_L_isSampled_370  (x1 : Int32) (x5 : Int32) (x12 : Int32) (y0 : Int32) (y1 : Int32) (σ : Sg) : Prop :=
  ((y1 = y0) →
    ok_L_isSampled_378 x1 x5 x12 1 σ) ∧ (¬ (y1 = y0) →
    ok_L_isSampled_377 x1 x5 x12 σ)
noncomputable def f_L_isSampled_369  (x1 : Int32) (x5 : Int32) (x12 : Int32) (y0 : Int32) (σ : Sg) : Int32 × Sg :=
  f_L_isSampled_370 x1 x5 x12 0 y0 σ
def ok_L_isSampled_369  (x1 : Int32) (x5 : Int32) (x12 : Int32) (y0 : Int32) (σ : Sg) : Prop :=
  ok_L_isSampled_370 x1 x5 x12 0 y0 σ
noncomputable def f_L_isSampled_354  (x1 : Int32) (x5 : Int32) (x6 : Int32) (x8 : Int32) (x12 : Int32) (y0 : Int32) (σ : Sg) : Int32 × Sg :=
  o_ite (x8 = 0) (
    f_L_isSampled_369 x1 x5 x12 y0 σ) (
    o_ite (x6 ≤ 1) (
      f_L_isSampled_369 x1 x5 x12 y0 σ) (
      f_L_isSampled_370 x1 x5 x12 1 y0 σ))
def ok_L_isSampled_354  (x1 : Int32) (x5 : Int32) (x6 : Int32) (x8 : Int32) (x12 : Int32) (y0 : Int32) (σ : Sg) : Prop :=
  ((x8 = 0) →
    ok_L_isSampled_369 x1 x5 x12 y0 σ) ∧ (¬ (x8 = 0) →
    ((x6 ≤ 1) →
      ok_L_isSampled_369 x1 x5 x12 y0 σ) ∧ (¬ (x6 ≤ 1) →
      ok_L_isSampled_370 x1 x5 x12 1 y0 σ))
noncomputable def f_L_isSampled_341  (x1 : Int32) (x5 : Int32) (x6 : Int32) (x8 : Int32) (x12 : Int32) (y0 : Int32) (y1 : Int32) (σ : Sg) : Int32 × Sg :=
  o_ite (y1 = y0) (
    o_ite (x1 = 3) (
      f_L_isSampled_354 x1 x5 x6 x8 x12 1 σ) (
      f_L_isSampled_354 x1 x5 x6 x8 x12 0 σ)) (
    f_L_isSampled_377 x1 x5 x12 σ)
def ok_L_isSampled_341  (x1 : Int32) (x5 : Int32) (x6 : Int32) (x8 : Int32) (x12 : Int32) (y0 : Int32) (y1 : Int32) (σ : Sg) : Prop :=
  ((y1 = y0) →
    ((x1 = 3) →
      ok_L_isSampled_354 x1 x5 x6 x8 x12 1 σ) ∧ (¬ (x1 = 3) →
      ok_L_isSampled_354 x1 x5 x6 x8 x12 0 σ)) ∧ (¬ (y1 = y0) →
    ok_L_isSampled_377 x1 x5 x12 σ)
noncomputable def f_L_isSampled_301  (x1 : Int32) (x2 : Int32) (x5 : Int32) (x6 : Int32) (x8 : Int32) (x11 : Int32) (x12 : Int32) (y0 : Int32) (y1 : Int32) (y2 : Int32) (σ : Sg) : Int32 × Sg :=
  o_ite (y2 = (f_L_rest (y1 + y0) 64 σ)) (
    o_ite ((x11 - x11 / 4 * 4) = (x2 / 1020)) (
      o_ite (x8 = 0) (
        f_L_isSampled_341 x1 x5 x6 x8 x12 0 (f_X5_count 7 σ) σ) (
        f_L_isSampled_341 x1 x5 x6 x8 x12 (x6 + 1) (f_X5_count 7 σ) σ)) (
      f_L_isSampled_377 x1 x5 x12 σ)) (
    f_L_isSampled_377 x1 x5 x12 σ)
def ok_L_isSampled_301  (x1 : Int32) (x2 : Int32) (x5 : Int32) (x6 : Int32) (x8 : Int32) (x11 : Int32) (x12 : Int32) (y0 : Int32) (y1 : Int32) (y2 : Int32) (σ : Sg) : Prop :=
  (ok_L_rest (y1 + y0) 64 σ) ∧ (((y2 = (f_L_rest (y1 + y0) 64 σ)) →
    (((x11 - x11 / 4 * 4) = (x2 / 1020)) →
      (ok_X5_count 7 σ) ∧ (((x8 = 0) →
        ok_L_isSampled_341 x1 x5 x6 x8 x12 0 (f_X5_count 7 σ) σ) ∧ (¬ (x8 = 0) →
        ok_L_isSampled_341 x1 x5 x6 x8 x12 (x6 + 1) (f_X5_count 7 σ) σ))) ∧ (¬ ((x11 - x11 / 4 * 4) = (x2 / 1020)) →
      ok_L_isSampled_377 x1 x5 x12 σ)) ∧ (¬ (y2 = (f_L_rest (y1 + y0) 64 σ)) →
    ok_L_isSampled_377 x1 x5 x12 σ))
noncomputable def f_L_isSampled_212  (x4 : Int32) (x5 : Int32) (x6 : Int32) (x10 : Int32) (σ : Sg) : Int32 × Sg :=
  o_ite (x10 = 0) (
    (0, σ)) (
    o_ite ((f_X5_count 2 σ) = x4) (
      o_ite ((f_X5_count 6 σ) = x5) (
        o_ite ((f_X5_count 7 σ) = x6) (
          (1, σ)) (
          (0, σ))) (
        (0, σ))) (
      (0, σ)))
def ok_L_isSampled_212  (x4 : Int32) (x5 : Int32) (x6 : Int32) (x10 : Int32) (σ : Sg) : Prop :=
  ((x10 = 0) →
    True) ∧ (¬ (x10 = 0) →
    (ok_X5_count 2 σ) ∧ ((((f_X5_count 2 σ) = x4) →
      (ok_X5_count 6 σ) ∧ ((((f_X5_count 6 σ) = x5) →
        (ok_X5_count 7 σ) ∧ ((((f_X5_count 7 σ) = x6) →
          True) ∧ (¬ ((f_X5_count 7 σ) = x6) →
          True))) ∧ (¬ ((f_X5_count 6 σ) = x5) →
        True))) ∧ (¬ ((f_X5_count 2 σ) = x4) →
      True)))
noncomputable def f_L_isSampled_200  (x1 : Int32) (x2 : Int32) (x4 : Int32) (x5 : Int32) (x6 : Int32) (x7 : Int32) (x8 : Int32) (y0 : Int32) (σ : Sg) : Int32 × Sg :=
  o_ite (x1 = 1) (
    f_L_isSampled_212 x4 x5 x6 y0 σ) (
    o_ite (x1 = 2) (
      f_L_isSampled_212 x4 x5 x6 y0 σ) (
      o_ite (y0 = 0) (
        f_L_isSampled_377 x1 x5 ((((f_X5_count 2 σ) / 4) * 4080) + x2) σ) (
        o_ite (x7 = 2) (
          f_L_isSampled_377 x1 x5 ((((f_X5_count 2 σ) / 4) * 4080) + x2) σ) (
          o_ite (x7 = 3) (
            f_L_isSampled_301 x1 x2 x5 x6 x8 (f_X5_count 2 σ) ((((f_X5_count 2 σ) / 4) * 4080) + x2) (-1) x4 (f_X5_count 2 σ) σ) (
            f_L_isSampled_301 x1 x2 x5 x6 x8 (f_X5_count 2 σ) ((((f_X5_count 2 σ) / 4) * 4080) + x2) x7 x4 (f_X5_count 2 σ) σ)))))
def ok_L_isSampled_200  (x1 : Int32) (x2 : Int32) (x4 : Int32) (x5 : Int32) (x6 : Int32) (x7 : Int32) (x8 : Int32) (y0 : Int32) (σ : Sg) : Prop :=
  ((x1 = 1) →
    ok_L_isSampled_212 x4 x5 x6 y0 σ) ∧ (¬ (x1 = 1) →
    ((x1 = 2) →
      ok_L_isSampled_212 x4 x5 x6 y0 σ) ∧ (¬ (x1 = 2) →
      (ok_X5_count 2 σ) ∧ (((y0 = 0) →
        ok_L_isSampled_377 x1 x5 ((((f_X5_count 2 σ) / 4) * 4080) + x2) σ) ∧ (¬ (y0 = 0) →
        ((x7 = 2) →
          ok_L_isSampled_377 x1 x5 ((((f_X5_count 2 σ) / 4) * 4080) + x2) σ) ∧ (¬ (x7 = 2) →
          ((x7 = 3) →
            ok_L_isSampled_301 x1 x2 x5 x6 x8 (f_X5_count 2 σ) ((((f_X5_count 2 σ) / 4) * 4080) + x2) (-1) x4 (f_X5_count 2 σ) σ) ∧ (¬ (x7 = 3) →
            ok_L_isSampled_301 x1 x2 x5 x6 x8 (f_X5_count 2 σ) ((((f_X5_count 2 σ) / 4) * 4080) + x2) x7 x4 (f_X5_count 2 σ) σ))))))
noncomputable def f_L_isSampled_199  (x1 : Int32) (x2 : Int32) (x4 : Int32) (x5 : Int32) (x6 : Int32) (x7 : Int32) (x8 : Int32) (σ : Sg) : Int32 × Sg :=
  f_L_isSampled_200 x1 x2 x4 x5 x6 x7 x8 0 σ
def ok_L_isSampled_199  (x1 : Int32) (x2 : Int32) (x4 : Int32) (x5 : Int32) (x6 : Int32) (x7 : Int32) (x8 : Int32) (σ : Sg) : Prop :=
  ok_L_isSampled_200 x1 x2 x4 x5 x6 x7 x8 0 σ
noncomputable def f_L_isSampled_195  (x1 : Int32) (x2 : Int32) (x4 : Int32) (x5 : Int32) (x6 : Int32) (x7 : Int32) (x8 : Int32) (σ : Sg) : Int32 × Sg :=
  f_L_isSampled_200 x1 x2 x4 x5 x6 x7 x8 1 σ
def ok_L_isSampled_195  (x1 : Int32) (x2 : Int32) (x4 : Int32) (x5 : Int32) (x6 : Int32) (x7 : Int32) (x8 : Int32) (σ : Sg) : Prop :=
  ok_L_isSampled_200 x1 x2 x4 x5 x6 x7 x8 1 σ
noncomputable def f_L_isSampled_181  (x1 : Int32) (x2 : Int32) (x4 : Int32) (x5 : Int32) (x6 : Int32) (x7 : Int32) (x8 : Int32) (y0 : Int32) (y1 : Int32) (σ : Sg) : Int32 × Sg :=
  o_ite (y1 = y0) (
    o_ite (x1 = 2) (
      o_ite (x7 = 2) (
        f_L_isSampled_195 x1 x2 x4 x5 x6 x7 x8 σ) (
        f_L_isSampled_199 x1 x2 x4 x5 x6 x7 x8 σ)) (
      f_L_isSampled_195 x1 x2 x4 x5 x6 x7 x8 σ)) (
    f_L_isSampled_199 x1 x2 x4 x5 x6 x7 x8 σ)
def ok_L_isSampled_181  (x1 : Int32) (x2 : Int32) (x4 : Int32) (x5 : Int32) (x6 : Int32) (x7 : Int32) (x8 : Int32) (y0 : Int32) (y1 : Int32) (σ : Sg) : Prop :=
  ((y1 = y0) →
    ((x1 = 2) →
      ((x7 = 2) →
        ok_L_isSampled_195 x1 x2 x4 x5 x6 x7 x8 σ) ∧ (¬ (x7 = 2) →
        ok_L_isSampled_199 x1 x2 x4 x5 x6 x7 x8 σ)) ∧ (¬ (x1 = 2) →
      ok_L_isSampled_195 x1 x2 x4 x5 x6 x7 x8 σ)) ∧ (¬ (y1 = y0) →
    ok_L_isSampled_199 x1 x2 x4 x5 x6 x7 x8 σ)
noncomputable def f_L_isSampled_166  (x1 : Int32) (x2 : Int32) (x3 : Int32) (x4 : Int32) (x5 : Int32) (x6 : Int32) (x7 : Int32) (x8 : Int32) (y0 : Int32) (σ : Sg) : Int32 × Sg :=
  o_ite (x3 ≤ (f_X5_count 20 σ)) (
    f_L_isSampled_181 x1 x2 x4 x5 x6 x7 x8 0 y0 σ) (
    f_L_isSampled_181 x1 x2 x4 x5 x6 x7 x8 1 y0 σ)
def ok_L_isSampled_166  (x1 : Int32) (x2 : Int32) (x3 : Int32) (x4 : Int32) (x5 : Int32) (x6 : Int32) (x7 : Int32) (x8 : Int32) (y0 : Int32) (σ : Sg) : Prop :=
  (ok_X5_count 20 σ) ∧ (((x3 ≤ (f_X5_count 20 σ)) →
    ok_L_isSampled_181 x1 x2 x4 x5 x6 x7 x8 0 y0 σ) ∧ (¬ (x3 ≤ (f_X5_count 20 σ)) →
    ok_L_isSampled_181 x1 x2 x4 x5 x6 x7 x8 1 y0 σ))
noncomputable def f_L_isSampled_153  (x1 : Int32) (x2 : Int32) (x3 : Int32) (x4 : Int32) (x5 : Int32) (x6 : Int32) (x7 : Int32) (x8 : Int32) (y0 : Int32) (y1 : Int32) (σ : Sg) : Int32 × Sg :=
  o_ite (y1 = y0) (
    o_ite (x1 = 1) (
      f_L_isSampled_166 x1 x2 x3 x4 x5 x6 x7 x8 1 σ) (
      f_L_isSampled_166 x1 x2 x3 x4 x5 x6 x7 x8 0 σ)) (
    f_L_isSampled_199 x1 x2 x4 x5 x6 x7 x8 σ)
def ok_L_isSampled_153  (x1 : Int32) (x2 : Int32) (x3 : Int32) (x4 : Int32) (x5 : Int32) (x6 : Int32) (x7 : Int32) (x8 : Int32) (y0 : Int32) (y1 : Int32) (σ : Sg) : Prop :=
  ((y1 = y0) →
    ((x1 = 1) →
      ok_L_isSampled_166 x1 x2 x3 x4 x5 x6 x7 x8 1 σ) ∧ (¬ (x1 = 1) →
      ok_L_isSampled_166 x1 x2 x3 x4 x5 x6 x7 x8 0 σ)) ∧ (¬ (y1 = y0) →
    ok_L_isSampled_199 x1 x2 x4 x5 x6 x7 x8 σ)
noncomputable def f_L_isSampled_117  (x1 : Int32) (x2 : Int32) (x3 : Int32) (x4 : Int32) (x5 : Int32) (x6 : Int32) (x7 : Int32) (y0 : Int32) (σ : Sg) : Int32 × Sg :=
  let q2 := f_X5_sample σ
  o_ite (x1 < 0) (
    f_L_isSampled_199 x1 x2 x4 x5 x6 x7 y0 q2.2) (
    o_ite (5 ≤ x1) (
      f_L_isSampled_199 x1 x2 x4 x5 x6 x7 y0 q2.2) (
      o_ite (x1 = 0) (
        f_L_isSampled_153 x1 x2 x3 x4 x5 x6 x7 y0 (f_X5_count 6 q2.2) (q2.1) q2.2) (
        f_L_isSampled_153 x1 x2 x3 x4 x5 x6 x7 y0 (100000 + x1) (q2.1) q2.2)))
def ok_L_isSampled_117  (x1 : Int32) (x2 : Int32) (x3 : Int32) (x4 : Int32) (x5 : Int32) (x6 : Int32) (x7 : Int32) (y0 : Int32) (σ : Sg) : Prop :=
  (ok_X5_sample σ) ∧ (let q2 := f_X5_sample σ
  ((x1 < 0) →
    ok_L_isSampled_199 x1 x2 x4 x5 x6 x7 y0 q2.2) ∧ (¬ (x1 < 0) →
    ((5 ≤ x1) →
      ok_L_isSampled_199 x1 x2 x4 x5 x6 x7 y0 q2.2) ∧ (¬ (5 ≤ x1) →
      ((x1 = 0) →
        (ok_X5_count 6 q2.2) ∧ (ok_L_isSampled_153 x1 x2 x3 x4 x5 x6 x7 y0 (f_X5_count 6 q2.2) (q2.1) q2.2)) ∧ (¬ (x1 = 0) →
        ok_L_isSampled_153 x1 x2 x3 x4 x5 x6 x7 y0 (100000 + x1) (q2.1) q2.2))))
noncomputable def f_L_isSampled  (σ : Sg) : Int32 × Sg :=
  let q2 := f_X5_reason σ
  o_ite ((f_X5_count 3 q2.2) = 0) (
    o_ite (q2.1 = (-2)) (
      let q18 := f_X5_sample q2.2
      o_ite (q18.1 = (-2)) (
        (1, q18.2)) (
        (0, q18.2))) (
      (0, q2.2))) (
    let q5 := f_X5_look 0 q2.2
    let q7 := f_X5_look 1 q5.2
    let r12 := f_L_rest ((q5.1 / 1020) - (f_X5_count 2 q7.2)) 4 q7.2
    let r15 := f_L_near ((f_X5_count 8 q7.2) - ((q5.1 * 64) / 4080)) 64 q7.2
    o_ite (r15 ≤ (f_X5_count 21 q7.2)) (
      f_L_isSampled_117 (q2.1) (q5.1) (q7.1) (f_X5_count 2 q7.2) (f_X5_count 6 q7.2) (f_X5_count 7 q7.2) r12 0 q7.2) (
      f_L_isSampled_117 (q2.1) (q5.1) (q7.1) (f_X5_count 2 q7.2) (f_X5_count 6 q7.2) (f_X5_count 7 q7.2) r12 1 q7.2))
def ok_L_isSampled  (σ : Sg) : Prop :=
  (ok_X5_reason σ) ∧ (let q2 := f_X5_reason σ
  (ok_X5_count 3 q2.2) ∧ ((((f_X5_count 3 q2.2) = 0) →
    ((q2.1 = (-2)) →
      (ok_X5_sample q2.2) ∧ (let q18 := f_X5_sample q2.2
      ((q18.1 = (-2)) →
        True) ∧ (¬ (q18.1 = (-2)) →
        True))) ∧ (¬ (q2.1 = (-2)) →
      True)) ∧ (¬ ((f_X5_count 3 q2.2) = 0) →
    (ok_X5_look 0 q2.2) ∧ (let q5 := f_X5_look 0 q2.2
    (ok_X5_look 1 q5.2) ∧ (let q7 := f_X5_look 1 q5.2
    (ok_X5_count 2 q7.2) ∧ ((ok_X5_count 6 q7.2) ∧ ((ok_X5_count 7 q7.2) ∧ ((ok_L_rest ((q5.1 / 1020) - (f_X5_count 2 q7.2)) 4 q7.2) ∧ (let r12 := f_L_rest ((q5.1 / 1020) - (f_X5_count 2 q7.2)) 4 q7.2
    (ok_X5_count 8 q7.2) ∧ ((ok_L_near ((f_X5_count 8 q7.2) - ((q5.1 * 64) / 4080)) 64 q7.2) ∧ (let r15 := f_L_near ((f_X5_count 8 q7.2) - ((q5.1 * 64) / 4080)) 64 q7.2
    (ok_X5_count 21 q7.2) ∧ (((r15 ≤ (f_X5_count 21 q7.2)) →
      ok_L_isSampled_117 (q2.1) (q5.1) (q7.1) (f_X5_count 2 q7.2) (f_X5_count 6 q7.2) (f_X5_count 7 q7.2) r12 0 q7.2) ∧ (¬ (r15 ≤ (f_X5_count 21 q7.2)) →
      ok_L_isSampled_117 (q2.1) (q5.1) (q7.1) (f_X5_count 2 q7.2) (f_X5_count 6 q7.2) (f_X5_count 7 q7.2) r12 1 q7.2)))))))))))))
set_option maxHeartbeats 4000000 in
set_option maxRecDepth 100000 in
theorem t_L_isSampled_378 {p : Program} {l : Launch} {e : Env} {s : State} {m : MethodId} {args : Array Value} {below : List Frame} {meth : Method} {c : Code} {G : Gt} {post : Int32 → Sg → Prop}   (hc : o_Cx p s m args meth c G cL_isSampled yL_isSampled.cls 13) (hr : meth.sig.returnType = (some .boolean)) {x1 : Int32} {x5 : Int32} {x12 : Int32} {y0 : Int32} {σ : Sg} (hok : ok_L_isSampled_378  x1 x5 x12 y0 σ) (hq : ∀ q : Int32 × Sg, q = f_L_isSampled_378  x1 x5 x12 y0 σ → post q.1 q.2) : o_V p l e { frames := 7, cells := 0, slots := 0, locals := 166 } s m args below meth c (MQ below (va_Qi post (fun σ' t => o_W G σ' t.heap) (o_A G)) args s 0 0 (o_A G)) G 0 0 13 σ 378 [(0, .ref (gAd G 0)), (1, .int x1), (5, .int x5), (12, .int x12)] [.int y0] := by
  refine r_istore (pc := 378) (lv' := [(10, _), (0, _), (1, _), (5, _), (12, _)]) hc dL_isSampled_378 (by decide) rfl ?_
  refine r_iload (pc := 380) hc 0 dL_isSampled_380 rfl ?_
  refine r_if_eq (pc := 382) (tgt := 468) hc dL_isSampled_382 (by decide) (fun c382 => ?_) (fun c382 => ?_)
  · have hok := hok.1 c382
    have hq := o_qp hq c382
    refine r_iconst (pc := 468) (v := 0) hc dL_isSampled_468 rfl ?_
    exact r_iret hc hr rfl dL_isSampled_469 (hq (_, _) rfl)
  · have hok := hok.2 c382
    have hq := o_qn hq c382
    refine r_iload_n (pc := 385) hc 2 dL_isSampled_385 rfl rfl ?_
    refine r_if_ne (pc := 386) (tgt := 429) hc dL_isSampled_386 (by decide) (fun c386 => ?_) (fun c386 => ?_)
    · have hok := hok.2 c386
      have hq := o_qn hq c386
      refine r_aload_n (pc := 429) hc 1 dL_isSampled_429 rfl rfl ?_
      refine r_bipush (pc := 430) (v := 6) hc dL_isSampled_430 (by decide) ?_
      obtain ⟨hs1, hok⟩ := hok
      refine r_callV_i (pc := 432) (as := [.int _]) hc (c_X5_count l _ hs1) kk5 (o_lt hc (by decide)) rfl mV_X5_count kM_L_19 ⟨Nat.le_of_ble_eq_true rfl, Nat.le_of_ble_eq_true rfl⟩ ⟨Nat.le_of_ble_eq_true rfl, Nat.le_of_ble_eq_true rfl⟩ rfl rfl (Nat.le_of_ble_eq_true rfl) dL_isSampled_432 (fun r σ' h => ?_)
      obtain ⟨rfl, rfl⟩ := h
      refine r_iload (pc := 435) hc 3 dL_isSampled_435 rfl ?_
      refine r_icmp_ne (pc := 437) (tgt := 468) hc dL_isSampled_437 (by decide) (fun c437 => ?_) (fun c437 => ?_)
      · have hok := hok.2 c437
        have hq := o_qn hq c437
        refine r_iconst (pc := 468) (v := 0) hc dL_isSampled_468 rfl ?_
        exact r_iret hc hr rfl dL_isSampled_469 (hq (_, _) rfl)
      · have hok := hok.1 c437
        have hq := o_qp hq c437
        refine r_iload_n (pc := 440) hc 2 dL_isSampled_440 rfl rfl ?_
        refine r_iconst (pc := 441) (v := 3) hc dL_isSampled_441 rfl ?_
        refine r_icmp_eq (pc := 442) (tgt := 464) hc dL_isSampled_442 (by decide) (fun c442 => ?_) (fun c442 => ?_)
        · have hok := hok.1 c442
          have hq := o_qp hq c442
          refine r_iconst (pc := 464) (v := 1) hc dL_isSampled_464 rfl ?_
          refine r_goto (pc := 465) (tgt := 469) hc dL_isSampled_465 (by decide) ?_
          exact r_iret hc hr rfl dL_isSampled_469 (hq (_, _) rfl)
        · have hok := hok.2 c442
          have hq := o_qn hq c442
          refine r_iload (pc := 445) hc 4 dL_isSampled_445 rfl ?_
          refine r_iload (pc := 447) hc 3 dL_isSampled_447 rfl ?_
          refine r_isub (pc := 449) hc dL_isSampled_449 ?_
          refine r_ldc (pc := 450) (v := 65280) hc kK_L_91 dL_isSampled_450 ?_
          obtain ⟨hs2, hok⟩ := hok
          refine r_callS_i (pc := 452) (as := [.int _, .int _]) hc (c_L_near l _ hs2) mS_L_near kM_L_95 ⟨Nat.le_of_ble_eq_true rfl, Nat.le_of_ble_eq_true rfl⟩ ⟨Nat.le_of_ble_eq_true rfl, Nat.le_of_ble_eq_true rfl⟩ rfl rfl (Nat.le_of_ble_eq_true rfl) dL_isSampled_452 (fun r σ' h => ?_)
          obtain ⟨rfl, rfl⟩ := h
          refine r_aload_n (pc := 455) hc 1 dL_isSampled_455 rfl rfl ?_
          refine r_bipush (pc := 456) (v := 22) hc dL_isSampled_456 (by decide) ?_
          obtain ⟨hs3, hok⟩ := hok
          refine r_callV_i (pc := 458) (as := [.int _]) hc (c_X5_count l _ hs3) kk5 (o_lt hc (by decide)) rfl mV_X5_count kM_L_19 ⟨Nat.le_of_ble_eq_true rfl, Nat.le_of_ble_eq_true rfl⟩ ⟨Nat.le_of_ble_eq_true rfl, Nat.le_of_ble_eq_true rfl⟩ rfl rfl (Nat.le_of_ble_eq_true rfl) dL_isSampled_458 (fun r σ' h => ?_)
          obtain ⟨rfl, rfl⟩ := h
          refine r_icmp_le (pc := 461) (tgt := 468) hc dL_isSampled_461 (by decide) (fun c461 => ?_) (fun c461 => ?_)
          · have hok := hok.1 c461
            have hq := o_qp hq c461
            refine r_iconst (pc := 468) (v := 0) hc dL_isSampled_468 rfl ?_
            exact r_iret hc hr rfl dL_isSampled_469 (hq (_, _) rfl)
          · have hok := hok.2 c461
            have hq := o_qn hq c461
            refine r_iconst (pc := 464) (v := 1) hc dL_isSampled_464 rfl ?_
            refine r_goto (pc := 465) (tgt := 469) hc dL_isSampled_465 (by decide) ?_
            exact r_iret hc hr rfl dL_isSampled_469 (hq (_, _) rfl)
    · have hok := hok.1 c386
      have hq := o_qp hq c386
      refine r_aload_n (pc := 389) hc 1 dL_isSampled_389 rfl rfl ?_
      refine r_bipush (pc := 390) (v := 6) hc dL_isSampled_390 (by decide) ?_
      obtain ⟨hs4, hok⟩ := hok
      refine r_callV_i (pc := 392) (as := [.int _]) hc (c_X5_count l _ hs4) kk5 (o_lt hc (by decide)) rfl mV_X5_count kM_L_19 ⟨Nat.le_of_ble_eq_true rfl, Nat.le_of_ble_eq_true rfl⟩ ⟨Nat.le_of_ble_eq_true rfl, Nat.le_of_ble_eq_true rfl⟩ rfl rfl (Nat.le_of_ble_eq_true rfl) dL_isSampled_392 (fun r σ' h => ?_)
      obtain ⟨rfl, rfl⟩ := h
      refine r_iload (pc := 395) hc 4 dL_isSampled_395 rfl ?_
      refine r_icmp_ne (pc := 397) (tgt := 468) hc dL_isSampled_397 (by decide) (fun c397 => ?_) (fun c397 => ?_)
      · have hok := hok.2 c397
        have hq := o_qn hq c397
        refine r_iconst (pc := 468) (v := 0) hc dL_isSampled_468 rfl ?_
        exact r_iret hc hr rfl dL_isSampled_469 (hq (_, _) rfl)
      · have hok := hok.1 c397
        have hq := o_qp hq c397
        refine r_iload (pc := 400) hc 3 dL_isSampled_400 rfl ?_
        refine r_bipush (pc := 402) (v := (-4)) hc dL_isSampled_402 (by decide) ?_
        refine r_icmp_eq (pc := 404) (tgt := 464) hc dL_isSampled_404 (by decide) (fun c404 => ?_) (fun c404 => ?_)
        · have hok := hok.1 c404
          have hq := o_qp hq c404
          refine r_iconst (pc := 464) (v := 1) hc dL_isSampled_464 rfl ?_
          refine r_goto (pc := 465) (tgt := 469) hc dL_isSampled_465 (by decide) ?_
          exact r_iret hc hr rfl dL_isSampled_469 (hq (_, _) rfl)
        · have hok := hok.2 c404
          have hq := o_qn hq c404
          refine r_iload (pc := 407) hc 4 dL_isSampled_407 rfl ?_
          refine r_iload (pc := 409) hc 3 dL_isSampled_409 rfl ?_
          refine r_isub (pc := 411) hc dL_isSampled_411 ?_
          refine r_ldc (pc := 412) (v := 65280) hc kK_L_91 dL_isSampled_412 ?_
          obtain ⟨hs5, hok⟩ := hok
          refine r_callS_i (pc := 414) (as := [.int _, .int _]) hc (c_L_near l _ hs5) mS_L_near kM_L_95 ⟨Nat.le_of_ble_eq_true rfl, Nat.le_of_ble_eq_true rfl⟩ ⟨Nat.le_of_ble_eq_true rfl, Nat.le_of_ble_eq_true rfl⟩ rfl rfl (Nat.le_of_ble_eq_true rfl) dL_isSampled_414 (fun r σ' h => ?_)
          obtain ⟨rfl, rfl⟩ := h
          refine r_aload_n (pc := 417) hc 1 dL_isSampled_417 rfl rfl ?_
          refine r_bipush (pc := 418) (v := 22) hc dL_isSampled_418 (by decide) ?_
          obtain ⟨hs6, hok⟩ := hok
          refine r_callV_i (pc := 420) (as := [.int _]) hc (c_X5_count l _ hs6) kk5 (o_lt hc (by decide)) rfl mV_X5_count kM_L_19 ⟨Nat.le_of_ble_eq_true rfl, Nat.le_of_ble_eq_true rfl⟩ ⟨Nat.le_of_ble_eq_true rfl, Nat.le_of_ble_eq_true rfl⟩ rfl rfl (Nat.le_of_ble_eq_true rfl) dL_isSampled_420 (fun r σ' h => ?_)
          obtain ⟨rfl, rfl⟩ := h
          refine r_icmp_gt (pc := 423) (tgt := 468) hc dL_isSampled_423 (by decide) (fun c423 => ?_) (fun c423 => ?_)
          · have hok := hok.1 c423
            have hq := o_qp hq c423
            refine r_iconst (pc := 468) (v := 0) hc dL_isSampled_468 rfl ?_
            exact r_iret hc hr rfl dL_isSampled_469 (hq (_, _) rfl)
          · have hok := hok.2 c423
            have hq := o_qn hq c423
            refine r_goto (pc := 426) (tgt := 464) hc dL_isSampled_426 (by decide) ?_
            refine r_iconst (pc := 464) (v := 1) hc dL_isSampled_464 rfl ?_
            refine r_goto (pc := 465) (tgt := 469) hc dL_isSampled_465 (by decide) ?_
            exact r_iret hc hr rfl dL_isSampled_469 (hq (_, _) rfl)
set_option maxHeartbeats 4000000 in
set_option maxRecDepth 100000 in
theorem t_L_isSampled_377 {p : Program} {l : Launch} {e : Env} {s : State} {m : MethodId} {args : Array Value} {below : List Frame} {meth : Method} {c : Code} {G : Gt} {post : Int32 → Sg → Prop}   (hc : o_Cx p s m args meth c G cL_isSampled yL_isSampled.cls 13) (hr : meth.sig.returnType = (some .boolean)) {x1 : Int32} {x5 : Int32} {x12 : Int32} {σ : Sg} (hok : ok_L_isSampled_377  x1 x5 x12 σ) (hq : ∀ q : Int32 × Sg, q = f_L_isSampled_377  x1 x5 x12 σ → post q.1 q.2) : o_V p l e { frames := 7, cells := 0, slots := 0, locals := 166 } s m args below meth c (MQ below (va_Qi post (fun σ' t => o_W G σ' t.heap) (o_A G)) args s 0 0 (o_A G)) G 0 0 13 σ 377 [(0, .ref (gAd G 0)), (1, .int x1), (5, .int x5), (12, .int x12)] [] := by
  refine r_iconst (pc := 377) (v := 0) hc dL_isSampled_377 rfl ?_
  exact o_V.sub (t_L_isSampled_378  hc hr hok hq) [0, 1, 2, 3] rfl
set_option maxHeartbeats 4000000 in
set_option maxRecDepth 100000 in
theorem t_L_isSampled_370 {p : Program} {l : Launch} {e : Env} {s : State} {m : MethodId} {args : Array Value} {below : List Frame} {meth : Method} {c : Code} {G : Gt} {post : Int32 → Sg → Prop}   (hc : o_Cx p s m args meth c G cL_isSampled yL_isSampled.cls 13) (hr : meth.sig.returnType = (some .boolean)) {x1 : Int32} {x5 : Int32} {x12 : Int32} {y0 : Int32} {y1 : Int32} {σ : Sg} (hok : ok_L_isSampled_370  x1 x5 x12 y0 y1 σ) (hq : ∀ q : Int32 × Sg, q = f_L_isSampled_370  x1 x5 x12 y0 y1 σ → post q.1 q.2) : o_V p l e { frames := 7, cells := 0, slots := 0, locals := 166 } s m args below meth c (MQ below (va_Qi post (fun σ' t => o_W G σ' t.heap) (o_A G)) args s 0 0 (o_A G)) G 0 0 13 σ 370 [(0, .ref (gAd G 0)), (1, .int x1), (5, .int x5), (12, .int x12)] [.int y0, .int y1] := by
  refine r_icmp_ne (pc := 370) (tgt := 377) hc dL_isSampled_370 (by decide) (fun c370 => ?_) (fun c370 => ?_)
  · have hok := hok.2 c370
    have hq := o_qn hq c370
    exact o_V.sub (t_L_isSampled_377  hc hr hok hq) [0, 1, 2, 3] rfl
  · have hok := hok.1 c370
    have hq := o_qp hq c370
    refine r_iconst (pc := 373) (v := 1) hc dL_isSampled_373 rfl ?_
    refine r_goto (pc := 374) (tgt := 378) hc dL_isSampled_374 (by decide) ?_
    exact o_V.sub (t_L_isSampled_378  hc hr hok hq) [0, 1, 2, 3] rfl
set_option maxHeartbeats 4000000 in
set_option maxRecDepth 100000 in
theorem t_L_isSampled_369 {p : Program} {l : Launch} {e : Env} {s : State} {m : MethodId} {args : Array Value} {below : List Frame} {meth : Method} {c : Code} {G : Gt} {post : Int32 → Sg → Prop}   (hc : o_Cx p s m args meth c G cL_isSampled yL_isSampled.cls 13) (hr : meth.sig.returnType = (some .boolean)) {x1 : Int32} {x5 : Int32} {x12 : Int32} {y0 : Int32} {σ : Sg} (hok : ok_L_isSampled_369  x1 x5 x12 y0 σ) (hq : ∀ q : Int32 × Sg, q = f_L_isSampled_369  x1 x5 x12 y0 σ → post q.1 q.2) : o_V p l e { frames := 7, cells := 0, slots := 0, locals := 166 } s m args below meth c (MQ below (va_Qi post (fun σ' t => o_W G σ' t.heap) (o_A G)) args s 0 0 (o_A G)) G 0 0 13 σ 369 [(0, .ref (gAd G 0)), (1, .int x1), (5, .int x5), (12, .int x12)] [.int y0] := by
  refine r_iconst (pc := 369) (v := 0) hc dL_isSampled_369 rfl ?_
  exact o_V.sub (t_L_isSampled_370  hc hr hok hq) [0, 1, 2, 3] rfl
set_option maxHeartbeats 4000000 in
set_option maxRecDepth 100000 in
theorem t_L_isSampled_354 {p : Program} {l : Launch} {e : Env} {s : State} {m : MethodId} {args : Array Value} {below : List Frame} {meth : Method} {c : Code} {G : Gt} {post : Int32 → Sg → Prop}   (hc : o_Cx p s m args meth c G cL_isSampled yL_isSampled.cls 13) (hr : meth.sig.returnType = (some .boolean)) {x1 : Int32} {x5 : Int32} {x6 : Int32} {x8 : Int32} {x12 : Int32} {y0 : Int32} {σ : Sg} (hok : ok_L_isSampled_354  x1 x5 x6 x8 x12 y0 σ) (hq : ∀ q : Int32 × Sg, q = f_L_isSampled_354  x1 x5 x6 x8 x12 y0 σ → post q.1 q.2) : o_V p l e { frames := 7, cells := 0, slots := 0, locals := 166 } s m args below meth c (MQ below (va_Qi post (fun σ' t => o_W G σ' t.heap) (o_A G)) args s 0 0 (o_A G)) G 0 0 13 σ 354 [(0, .ref (gAd G 0)), (1, .int x1), (5, .int x5), (6, .int x6), (8, .int x8), (12, .int x12)] [.int y0] := by
  refine r_iload (pc := 354) hc 4 dL_isSampled_354 rfl ?_
  refine r_if_eq (pc := 356) (tgt := 369) hc dL_isSampled_356 (by decide) (fun c356 => ?_) (fun c356 => ?_)
  · have hok := hok.1 c356
    have hq := o_qp hq c356
    exact o_V.sub (t_L_isSampled_369  hc hr hok hq) [0, 1, 2, 5] rfl
  · have hok := hok.2 c356
    have hq := o_qn hq c356
    refine r_iload (pc := 359) hc 3 dL_isSampled_359 rfl ?_
    refine r_iconst (pc := 361) (v := 1) hc dL_isSampled_361 rfl ?_
    refine r_icmp_le (pc := 362) (tgt := 369) hc dL_isSampled_362 (by decide) (fun c362 => ?_) (fun c362 => ?_)
    · have hok := hok.1 c362
      have hq := o_qp hq c362
      exact o_V.sub (t_L_isSampled_369  hc hr hok hq) [0, 1, 2, 5] rfl
    · have hok := hok.2 c362
      have hq := o_qn hq c362
      refine r_iconst (pc := 365) (v := 1) hc dL_isSampled_365 rfl ?_
      refine r_goto (pc := 366) (tgt := 370) hc dL_isSampled_366 (by decide) ?_
      exact o_V.sub (t_L_isSampled_370  hc hr hok hq) [0, 1, 2, 5] rfl
set_option maxHeartbeats 4000000 in
set_option maxRecDepth 100000 in
theorem t_L_isSampled_341 {p : Program} {l : Launch} {e : Env} {s : State} {m : MethodId} {args : Array Value} {below : List Frame} {meth : Method} {c : Code} {G : Gt} {post : Int32 → Sg → Prop}   (hc : o_Cx p s m args meth c G cL_isSampled yL_isSampled.cls 13) (hr : meth.sig.returnType = (some .boolean)) {x1 : Int32} {x5 : Int32} {x6 : Int32} {x8 : Int32} {x12 : Int32} {y0 : Int32} {y1 : Int32} {σ : Sg} (hok : ok_L_isSampled_341  x1 x5 x6 x8 x12 y0 y1 σ) (hq : ∀ q : Int32 × Sg, q = f_L_isSampled_341  x1 x5 x6 x8 x12 y0 y1 σ → post q.1 q.2) : o_V p l e { frames := 7, cells := 0, slots := 0, locals := 166 } s m args below meth c (MQ below (va_Qi post (fun σ' t => o_W G σ' t.heap) (o_A G)) args s 0 0 (o_A G)) G 0 0 13 σ 341 [(0, .ref (gAd G 0)), (1, .int x1), (5, .int x5), (6, .int x6), (8, .int x8), (12, .int x12)] [.int y0, .int y1] := by
  refine r_icmp_ne (pc := 341) (tgt := 377) hc dL_isSampled_341 (by decide) (fun c341 => ?_) (fun c341 => ?_)
  · have hok := hok.2 c341
    have hq := o_qn hq c341
    exact o_V.sub (t_L_isSampled_377  hc hr hok hq) [0, 1, 2, 5] rfl
  · have hok := hok.1 c341
    have hq := o_qp hq c341
    refine r_iload_n (pc := 344) hc 1 dL_isSampled_344 rfl rfl ?_
    refine r_iconst (pc := 345) (v := 3) hc dL_isSampled_345 rfl ?_
    refine r_icmp_ne (pc := 346) (tgt := 353) hc dL_isSampled_346 (by decide) (fun c346 => ?_) (fun c346 => ?_)
    · have hok := hok.2 c346
      have hq := o_qn hq c346
      refine r_iconst (pc := 353) (v := 0) hc dL_isSampled_353 rfl ?_
      exact o_V.sub (t_L_isSampled_354  hc hr hok hq) [0, 1, 2, 3, 4, 5] rfl
    · have hok := hok.1 c346
      have hq := o_qp hq c346
      refine r_iconst (pc := 349) (v := 1) hc dL_isSampled_349 rfl ?_
      refine r_goto (pc := 350) (tgt := 354) hc dL_isSampled_350 (by decide) ?_
      exact o_V.sub (t_L_isSampled_354  hc hr hok hq) [0, 1, 2, 3, 4, 5] rfl
set_option maxHeartbeats 4000000 in
set_option maxRecDepth 100000 in
theorem t_L_isSampled_301 {p : Program} {l : Launch} {e : Env} {s : State} {m : MethodId} {args : Array Value} {below : List Frame} {meth : Method} {c : Code} {G : Gt} {post : Int32 → Sg → Prop}   (hc : o_Cx p s m args meth c G cL_isSampled yL_isSampled.cls 13) (hr : meth.sig.returnType = (some .boolean)) {x1 : Int32} {x2 : Int32} {x5 : Int32} {x6 : Int32} {x8 : Int32} {x11 : Int32} {x12 : Int32} {y0 : Int32} {y1 : Int32} {y2 : Int32} {σ : Sg} (hok : ok_L_isSampled_301  x1 x2 x5 x6 x8 x11 x12 y0 y1 y2 σ) (hq : ∀ q : Int32 × Sg, q = f_L_isSampled_301  x1 x2 x5 x6 x8 x11 x12 y0 y1 y2 σ → post q.1 q.2) : o_V p l e { frames := 7, cells := 0, slots := 0, locals := 166 } s m args below meth c (MQ below (va_Qi post (fun σ' t => o_W G σ' t.heap) (o_A G)) args s 0 0 (o_A G)) G 0 0 13 σ 301 [(0, .ref (gAd G 0)), (1, .int x1), (2, .int x2), (5, .int x5), (6, .int x6), (8, .int x8), (11, .int x11), (12, .int x12)] [.int y0, .int y1, .int y2] := by
  refine r_iadd (pc := 301) hc dL_isSampled_301 ?_
  refine r_bipush (pc := 302) (v := 64) hc dL_isSampled_302 (by decide) ?_
  obtain ⟨hs1, hok⟩ := hok
  refine r_callS_i (pc := 304) (as := [.int _, .int _]) hc (c_L_rest l _ hs1) mS_L_rest kM_L_9 ⟨Nat.le_of_ble_eq_true rfl, Nat.le_of_ble_eq_true rfl⟩ ⟨Nat.le_of_ble_eq_true rfl, Nat.le_of_ble_eq_true rfl⟩ rfl rfl (Nat.le_of_ble_eq_true rfl) dL_isSampled_304 (fun r σ' h => ?_)
  obtain ⟨rfl, rfl⟩ := h
  refine r_icmp_ne (pc := 307) (tgt := 377) hc dL_isSampled_307 (by decide) (fun c307 => ?_) (fun c307 => ?_)
  · have hok := hok.2 c307
    have hq := o_qn hq c307
    exact o_V.sub (t_L_isSampled_377  hc hr hok hq) [0, 1, 3, 7] rfl
  · have hok := hok.1 c307
    have hq := o_qp hq c307
    refine r_iload (pc := 310) hc 6 dL_isSampled_310 rfl ?_
    refine r_iconst (pc := 312) (v := 4) hc dL_isSampled_312 rfl ?_
    refine r_irem (pc := 313) hc dL_isSampled_313 (by decide) ?_
    refine r_iload_n (pc := 314) hc 2 dL_isSampled_314 rfl rfl ?_
    refine r_sipush (pc := 315) (v := 1020) hc dL_isSampled_315 (by decide) ?_
    refine r_idiv (pc := 318) hc dL_isSampled_318 (by decide) ?_
    refine r_icmp_ne (pc := 319) (tgt := 377) hc dL_isSampled_319 (by decide) (fun c319 => ?_) (fun c319 => ?_)
    · have hok := hok.2 c319
      have hq := o_qn hq c319
      exact o_V.sub (t_L_isSampled_377  hc hr hok hq) [0, 1, 3, 7] rfl
    · have hok := hok.1 c319
      have hq := o_qp hq c319
      refine r_aload_n (pc := 322) hc 0 dL_isSampled_322 rfl rfl ?_
      refine r_bipush (pc := 323) (v := 7) hc dL_isSampled_323 (by decide) ?_
      obtain ⟨hs2, hok⟩ := hok
      refine r_callV_i (pc := 325) (as := [.int _]) hc (c_X5_count l _ hs2) kk5 (o_lt hc (by decide)) rfl mV_X5_count kM_L_19 ⟨Nat.le_of_ble_eq_true rfl, Nat.le_of_ble_eq_true rfl⟩ ⟨Nat.le_of_ble_eq_true rfl, Nat.le_of_ble_eq_true rfl⟩ rfl rfl (Nat.le_of_ble_eq_true rfl) dL_isSampled_325 (fun r σ' h => ?_)
      obtain ⟨rfl, rfl⟩ := h
      refine r_iload (pc := 328) hc 5 dL_isSampled_328 rfl ?_
      refine r_if_eq (pc := 330) (tgt := 340) hc dL_isSampled_330 (by decide) (fun c330 => ?_) (fun c330 => ?_)
      · have hok := hok.1 c330
        have hq := o_qp hq c330
        refine r_iconst (pc := 340) (v := 0) hc dL_isSampled_340 rfl ?_
        exact o_V.sub (t_L_isSampled_341  hc hr hok hq) [0, 1, 3, 4, 5, 7] rfl
      · have hok := hok.2 c330
        have hq := o_qn hq c330
        refine r_iload (pc := 333) hc 4 dL_isSampled_333 rfl ?_
        refine r_iconst (pc := 335) (v := 1) hc dL_isSampled_335 rfl ?_
        refine r_iadd (pc := 336) hc dL_isSampled_336 ?_
        refine r_goto (pc := 337) (tgt := 341) hc dL_isSampled_337 (by decide) ?_
        exact o_V.sub (t_L_isSampled_341  hc hr hok hq) [0, 1, 3, 4, 5, 7] rfl
set_option maxHeartbeats 4000000 in
set_option maxRecDepth 100000 in
theorem t_L_isSampled_212 {p : Program} {l : Launch} {e : Env} {s : State} {m : MethodId} {args : Array Value} {below : List Frame} {meth : Method} {c : Code} {G : Gt} {post : Int32 → Sg → Prop}   (hc : o_Cx p s m args meth c G cL_isSampled yL_isSampled.cls 13) (hr : meth.sig.returnType = (some .boolean)) {x4 : Int32} {x5 : Int32} {x6 : Int32} {x10 : Int32} {σ : Sg} (hok : ok_L_isSampled_212  x4 x5 x6 x10 σ) (hq : ∀ q : Int32 × Sg, q = f_L_isSampled_212  x4 x5 x6 x10 σ → post q.1 q.2) : o_V p l e { frames := 7, cells := 0, slots := 0, locals := 166 } s m args below meth c (MQ below (va_Qi post (fun σ' t => o_W G σ' t.heap) (o_A G)) args s 0 0 (o_A G)) G 0 0 13 σ 212 [(0, .ref (gAd G 0)), (4, .int x4), (5, .int x5), (6, .int x6), (10, .int x10)] [] := by
  refine r_iload (pc := 212) hc 4 dL_isSampled_212 rfl ?_
  refine r_if_eq (pc := 214) (tgt := 253) hc dL_isSampled_214 (by decide) (fun c214 => ?_) (fun c214 => ?_)
  · have hok := hok.1 c214
    have hq := o_qp hq c214
    refine r_iconst (pc := 253) (v := 0) hc dL_isSampled_253 rfl ?_
    exact r_iret hc hr rfl dL_isSampled_254 (hq (_, _) rfl)
  · have hok := hok.2 c214
    have hq := o_qn hq c214
    refine r_aload_n (pc := 217) hc 0 dL_isSampled_217 rfl rfl ?_
    refine r_iconst (pc := 218) (v := 2) hc dL_isSampled_218 rfl ?_
    obtain ⟨hs1, hok⟩ := hok
    refine r_callV_i (pc := 219) (as := [.int _]) hc (c_X5_count l _ hs1) kk5 (o_lt hc (by decide)) rfl mV_X5_count kM_L_19 ⟨Nat.le_of_ble_eq_true rfl, Nat.le_of_ble_eq_true rfl⟩ ⟨Nat.le_of_ble_eq_true rfl, Nat.le_of_ble_eq_true rfl⟩ rfl rfl (Nat.le_of_ble_eq_true rfl) dL_isSampled_219 (fun r σ' h => ?_)
    obtain ⟨rfl, rfl⟩ := h
    refine r_iload (pc := 222) hc 1 dL_isSampled_222 rfl ?_
    refine r_icmp_ne (pc := 224) (tgt := 253) hc dL_isSampled_224 (by decide) (fun c224 => ?_) (fun c224 => ?_)
    · have hok := hok.2 c224
      have hq := o_qn hq c224
      refine r_iconst (pc := 253) (v := 0) hc dL_isSampled_253 rfl ?_
      exact r_iret hc hr rfl dL_isSampled_254 (hq (_, _) rfl)
    · have hok := hok.1 c224
      have hq := o_qp hq c224
      refine r_aload_n (pc := 227) hc 0 dL_isSampled_227 rfl rfl ?_
      refine r_bipush (pc := 228) (v := 6) hc dL_isSampled_228 (by decide) ?_
      obtain ⟨hs2, hok⟩ := hok
      refine r_callV_i (pc := 230) (as := [.int _]) hc (c_X5_count l _ hs2) kk5 (o_lt hc (by decide)) rfl mV_X5_count kM_L_19 ⟨Nat.le_of_ble_eq_true rfl, Nat.le_of_ble_eq_true rfl⟩ ⟨Nat.le_of_ble_eq_true rfl, Nat.le_of_ble_eq_true rfl⟩ rfl rfl (Nat.le_of_ble_eq_true rfl) dL_isSampled_230 (fun r σ' h => ?_)
      obtain ⟨rfl, rfl⟩ := h
      refine r_iload (pc := 233) hc 2 dL_isSampled_233 rfl ?_
      refine r_icmp_ne (pc := 235) (tgt := 253) hc dL_isSampled_235 (by decide) (fun c235 => ?_) (fun c235 => ?_)
      · have hok := hok.2 c235
        have hq := o_qn hq c235
        refine r_iconst (pc := 253) (v := 0) hc dL_isSampled_253 rfl ?_
        exact r_iret hc hr rfl dL_isSampled_254 (hq (_, _) rfl)
      · have hok := hok.1 c235
        have hq := o_qp hq c235
        refine r_aload_n (pc := 238) hc 0 dL_isSampled_238 rfl rfl ?_
        refine r_bipush (pc := 239) (v := 7) hc dL_isSampled_239 (by decide) ?_
        obtain ⟨hs3, hok⟩ := hok
        refine r_callV_i (pc := 241) (as := [.int _]) hc (c_X5_count l _ hs3) kk5 (o_lt hc (by decide)) rfl mV_X5_count kM_L_19 ⟨Nat.le_of_ble_eq_true rfl, Nat.le_of_ble_eq_true rfl⟩ ⟨Nat.le_of_ble_eq_true rfl, Nat.le_of_ble_eq_true rfl⟩ rfl rfl (Nat.le_of_ble_eq_true rfl) dL_isSampled_241 (fun r σ' h => ?_)
        obtain ⟨rfl, rfl⟩ := h
        refine r_iload (pc := 244) hc 3 dL_isSampled_244 rfl ?_
        refine r_icmp_ne (pc := 246) (tgt := 253) hc dL_isSampled_246 (by decide) (fun c246 => ?_) (fun c246 => ?_)
        · have hok := hok.2 c246
          have hq := o_qn hq c246
          refine r_iconst (pc := 253) (v := 0) hc dL_isSampled_253 rfl ?_
          exact r_iret hc hr rfl dL_isSampled_254 (hq (_, _) rfl)
        · have hok := hok.1 c246
          have hq := o_qp hq c246
          refine r_iconst (pc := 249) (v := 1) hc dL_isSampled_249 rfl ?_
          refine r_goto (pc := 250) (tgt := 254) hc dL_isSampled_250 (by decide) ?_
          exact r_iret hc hr rfl dL_isSampled_254 (hq (_, _) rfl)
set_option maxHeartbeats 4000000 in
set_option maxRecDepth 100000 in
theorem t_L_isSampled_200 {p : Program} {l : Launch} {e : Env} {s : State} {m : MethodId} {args : Array Value} {below : List Frame} {meth : Method} {c : Code} {G : Gt} {post : Int32 → Sg → Prop}   (hc : o_Cx p s m args meth c G cL_isSampled yL_isSampled.cls 13) (hr : meth.sig.returnType = (some .boolean)) {x1 : Int32} {x2 : Int32} {x4 : Int32} {x5 : Int32} {x6 : Int32} {x7 : Int32} {x8 : Int32} {y0 : Int32} {σ : Sg} (hok : ok_L_isSampled_200  x1 x2 x4 x5 x6 x7 x8 y0 σ) (hq : ∀ q : Int32 × Sg, q = f_L_isSampled_200  x1 x2 x4 x5 x6 x7 x8 y0 σ → post q.1 q.2) : o_V p l e { frames := 7, cells := 0, slots := 0, locals := 166 } s m args below meth c (MQ below (va_Qi post (fun σ' t => o_W G σ' t.heap) (o_A G)) args s 0 0 (o_A G)) G 0 0 13 σ 200 [(0, .ref (gAd G 0)), (1, .int x1), (2, .int x2), (4, .int x4), (5, .int x5), (6, .int x6), (7, .int x7), (8, .int x8)] [.int y0] := by
  refine r_istore (pc := 200) (lv' := [(10, _), (0, _), (1, _), (2, _), (4, _), (5, _), (6, _), (7, _), (8, _)]) hc dL_isSampled_200 (by decide) rfl ?_
  refine r_iload_n (pc := 202) hc 2 dL_isSampled_202 rfl rfl ?_
  refine r_iconst (pc := 203) (v := 1) hc dL_isSampled_203 rfl ?_
  refine r_icmp_eq (pc := 204) (tgt := 212) hc dL_isSampled_204 (by decide) (fun c204 => ?_) (fun c204 => ?_)
  · have hok := hok.1 c204
    have hq := o_qp hq c204
    exact o_V.sub (t_L_isSampled_212  hc hr hok hq) [1, 4, 5, 6, 0] rfl
  · have hok := hok.2 c204
    have hq := o_qn hq c204
    refine r_iload_n (pc := 207) hc 2 dL_isSampled_207 rfl rfl ?_
    refine r_iconst (pc := 208) (v := 2) hc dL_isSampled_208 rfl ?_
    refine r_icmp_ne (pc := 209) (tgt := 255) hc dL_isSampled_209 (by decide) (fun c209 => ?_) (fun c209 => ?_)
    · have hok := hok.2 c209
      have hq := o_qn hq c209
      refine r_aload_n (pc := 255) hc 1 dL_isSampled_255 rfl rfl ?_
      refine r_iconst (pc := 256) (v := 2) hc dL_isSampled_256 rfl ?_
      obtain ⟨hs1, hok⟩ := hok
      refine r_callV_i (pc := 257) (as := [.int _]) hc (c_X5_count l _ hs1) kk5 (o_lt hc (by decide)) rfl mV_X5_count kM_L_19 ⟨Nat.le_of_ble_eq_true rfl, Nat.le_of_ble_eq_true rfl⟩ ⟨Nat.le_of_ble_eq_true rfl, Nat.le_of_ble_eq_true rfl⟩ rfl rfl (Nat.le_of_ble_eq_true rfl) dL_isSampled_257 (fun r σ' h => ?_)
      obtain ⟨rfl, rfl⟩ := h
      refine r_istore (pc := 260) (lv' := [(11, _), (10, _), (0, _), (1, _), (2, _), (4, _), (5, _), (6, _), (7, _), (8, _)]) hc dL_isSampled_260 (by decide) rfl ?_
      refine r_iload (pc := 262) hc 0 dL_isSampled_262 rfl ?_
      refine r_iconst (pc := 264) (v := 4) hc dL_isSampled_264 rfl ?_
      refine r_idiv (pc := 265) hc dL_isSampled_265 (by decide) ?_
      refine r_sipush (pc := 266) (v := 4080) hc dL_isSampled_266 (by decide) ?_
      refine r_imul (pc := 269) hc dL_isSampled_269 ?_
      refine r_iload_n (pc := 270) hc 4 dL_isSampled_270 rfl rfl ?_
      refine r_iadd (pc := 271) hc dL_isSampled_271 ?_
      refine r_istore (pc := 272) (lv' := [(12, _), (11, _), (10, _), (0, _), (1, _), (2, _), (4, _), (5, _), (6, _), (7, _), (8, _)]) hc dL_isSampled_272 (by decide) rfl ?_
      refine r_iload (pc := 274) hc 2 dL_isSampled_274 rfl ?_
      refine r_if_eq (pc := 276) (tgt := 377) hc dL_isSampled_276 (by decide) (fun c276 => ?_) (fun c276 => ?_)
      · have hok := hok.1 c276
        have hq := o_qp hq c276
        exact o_V.sub (t_L_isSampled_377  hc hr hok hq) [3, 4, 7, 0] rfl
      · have hok := hok.2 c276
        have hq := o_qn hq c276
        refine r_iload (pc := 279) hc 9 dL_isSampled_279 rfl ?_
        refine r_iconst (pc := 281) (v := 2) hc dL_isSampled_281 rfl ?_
        refine r_icmp_eq (pc := 282) (tgt := 377) hc dL_isSampled_282 (by decide) (fun c282 => ?_) (fun c282 => ?_)
        · have hok := hok.1 c282
          have hq := o_qp hq c282
          exact o_V.sub (t_L_isSampled_377  hc hr hok hq) [3, 4, 7, 0] rfl
        · have hok := hok.2 c282
          have hq := o_qn hq c282
          refine r_iload (pc := 285) hc 1 dL_isSampled_285 rfl ?_
          refine r_iload (pc := 287) hc 6 dL_isSampled_287 rfl ?_
          refine r_iload (pc := 289) hc 9 dL_isSampled_289 rfl ?_
          refine r_iconst (pc := 291) (v := 3) hc dL_isSampled_291 rfl ?_
          refine r_icmp_ne (pc := 292) (tgt := 299) hc dL_isSampled_292 (by decide) (fun c292 => ?_) (fun c292 => ?_)
          · have hok := hok.2 c292
            have hq := o_qn hq c292
            refine r_iload (pc := 299) hc 9 dL_isSampled_299 rfl ?_
            exact o_V.sub (t_L_isSampled_301  hc hr hok hq) [3, 4, 5, 7, 8, 10, 1, 0] rfl
          · have hok := hok.1 c292
            have hq := o_qp hq c292
            refine r_iconst (pc := 295) (v := (-1)) hc dL_isSampled_295 rfl ?_
            refine r_goto (pc := 296) (tgt := 301) hc dL_isSampled_296 (by decide) ?_
            exact o_V.sub (t_L_isSampled_301  hc hr hok hq) [3, 4, 5, 7, 8, 10, 1, 0] rfl
    · have hok := hok.1 c209
      have hq := o_qp hq c209
      exact o_V.sub (t_L_isSampled_212  hc hr hok hq) [1, 4, 5, 6, 0] rfl
set_option maxHeartbeats 4000000 in
set_option maxRecDepth 100000 in
theorem t_L_isSampled_199 {p : Program} {l : Launch} {e : Env} {s : State} {m : MethodId} {args : Array Value} {below : List Frame} {meth : Method} {c : Code} {G : Gt} {post : Int32 → Sg → Prop}   (hc : o_Cx p s m args meth c G cL_isSampled yL_isSampled.cls 13) (hr : meth.sig.returnType = (some .boolean)) {x1 : Int32} {x2 : Int32} {x4 : Int32} {x5 : Int32} {x6 : Int32} {x7 : Int32} {x8 : Int32} {σ : Sg} (hok : ok_L_isSampled_199  x1 x2 x4 x5 x6 x7 x8 σ) (hq : ∀ q : Int32 × Sg, q = f_L_isSampled_199  x1 x2 x4 x5 x6 x7 x8 σ → post q.1 q.2) : o_V p l e { frames := 7, cells := 0, slots := 0, locals := 166 } s m args below meth c (MQ below (va_Qi post (fun σ' t => o_W G σ' t.heap) (o_A G)) args s 0 0 (o_A G)) G 0 0 13 σ 199 [(0, .ref (gAd G 0)), (1, .int x1), (2, .int x2), (4, .int x4), (5, .int x5), (6, .int x6), (7, .int x7), (8, .int x8)] [] := by
  refine r_iconst (pc := 199) (v := 0) hc dL_isSampled_199 rfl ?_
  exact o_V.sub (t_L_isSampled_200  hc hr hok hq) [0, 1, 2, 3, 4, 5, 6, 7] rfl
set_option maxHeartbeats 4000000 in
set_option maxRecDepth 100000 in
theorem t_L_isSampled_195 {p : Program} {l : Launch} {e : Env} {s : State} {m : MethodId} {args : Array Value} {below : List Frame} {meth : Method} {c : Code} {G : Gt} {post : Int32 → Sg → Prop}   (hc : o_Cx p s m args meth c G cL_isSampled yL_isSampled.cls 13) (hr : meth.sig.returnType = (some .boolean)) {x1 : Int32} {x2 : Int32} {x4 : Int32} {x5 : Int32} {x6 : Int32} {x7 : Int32} {x8 : Int32} {σ : Sg} (hok : ok_L_isSampled_195  x1 x2 x4 x5 x6 x7 x8 σ) (hq : ∀ q : Int32 × Sg, q = f_L_isSampled_195  x1 x2 x4 x5 x6 x7 x8 σ → post q.1 q.2) : o_V p l e { frames := 7, cells := 0, slots := 0, locals := 166 } s m args below meth c (MQ below (va_Qi post (fun σ' t => o_W G σ' t.heap) (o_A G)) args s 0 0 (o_A G)) G 0 0 13 σ 195 [(0, .ref (gAd G 0)), (1, .int x1), (2, .int x2), (4, .int x4), (5, .int x5), (6, .int x6), (7, .int x7), (8, .int x8)] [] := by
  refine r_iconst (pc := 195) (v := 1) hc dL_isSampled_195 rfl ?_
  refine r_goto (pc := 196) (tgt := 200) hc dL_isSampled_196 (by decide) ?_
  exact o_V.sub (t_L_isSampled_200  hc hr hok hq) [0, 1, 2, 3, 4, 5, 6, 7] rfl
set_option maxHeartbeats 4000000 in
set_option maxRecDepth 100000 in
theorem t_L_isSampled_181 {p : Program} {l : Launch} {e : Env} {s : State} {m : MethodId} {args : Array Value} {below : List Frame} {meth : Method} {c : Code} {G : Gt} {post : Int32 → Sg → Prop}   (hc : o_Cx p s m args meth c G cL_isSampled yL_isSampled.cls 13) (hr : meth.sig.returnType = (some .boolean)) {x1 : Int32} {x2 : Int32} {x4 : Int32} {x5 : Int32} {x6 : Int32} {x7 : Int32} {x8 : Int32} {y0 : Int32} {y1 : Int32} {σ : Sg} (hok : ok_L_isSampled_181  x1 x2 x4 x5 x6 x7 x8 y0 y1 σ) (hq : ∀ q : Int32 × Sg, q = f_L_isSampled_181  x1 x2 x4 x5 x6 x7 x8 y0 y1 σ → post q.1 q.2) : o_V p l e { frames := 7, cells := 0, slots := 0, locals := 166 } s m args below meth c (MQ below (va_Qi post (fun σ' t => o_W G σ' t.heap) (o_A G)) args s 0 0 (o_A G)) G 0 0 13 σ 181 [(0, .ref (gAd G 0)), (1, .int x1), (2, .int x2), (4, .int x4), (5, .int x5), (6, .int x6), (7, .int x7), (8, .int x8)] [.int y0, .int y1] := by
  refine r_icmp_ne (pc := 181) (tgt := 199) hc dL_isSampled_181 (by decide) (fun c181 => ?_) (fun c181 => ?_)
  · have hok := hok.2 c181
    have hq := o_qn hq c181
    exact o_V.sub (t_L_isSampled_199  hc hr hok hq) [0, 1, 2, 3, 4, 5, 6, 7] rfl
  · have hok := hok.1 c181
    have hq := o_qp hq c181
    refine r_iload_n (pc := 184) hc 1 dL_isSampled_184 rfl rfl ?_
    refine r_iconst (pc := 185) (v := 2) hc dL_isSampled_185 rfl ?_
    refine r_icmp_ne (pc := 186) (tgt := 195) hc dL_isSampled_186 (by decide) (fun c186 => ?_) (fun c186 => ?_)
    · have hok := hok.2 c186
      have hq := o_qn hq c186
      exact o_V.sub (t_L_isSampled_195  hc hr hok hq) [0, 1, 2, 3, 4, 5, 6, 7] rfl
    · have hok := hok.1 c186
      have hq := o_qp hq c186
      refine r_iload (pc := 189) hc 6 dL_isSampled_189 rfl ?_
      refine r_iconst (pc := 191) (v := 2) hc dL_isSampled_191 rfl ?_
      refine r_icmp_ne (pc := 192) (tgt := 199) hc dL_isSampled_192 (by decide) (fun c192 => ?_) (fun c192 => ?_)
      · have hok := hok.2 c192
        have hq := o_qn hq c192
        exact o_V.sub (t_L_isSampled_199  hc hr hok hq) [0, 1, 2, 3, 4, 5, 6, 7] rfl
      · have hok := hok.1 c192
        have hq := o_qp hq c192
        exact o_V.sub (t_L_isSampled_195  hc hr hok hq) [0, 1, 2, 3, 4, 5, 6, 7] rfl
set_option maxHeartbeats 4000000 in
set_option maxRecDepth 100000 in
theorem t_L_isSampled_166 {p : Program} {l : Launch} {e : Env} {s : State} {m : MethodId} {args : Array Value} {below : List Frame} {meth : Method} {c : Code} {G : Gt} {post : Int32 → Sg → Prop}   (hc : o_Cx p s m args meth c G cL_isSampled yL_isSampled.cls 13) (hr : meth.sig.returnType = (some .boolean)) {x1 : Int32} {x2 : Int32} {x3 : Int32} {x4 : Int32} {x5 : Int32} {x6 : Int32} {x7 : Int32} {x8 : Int32} {y0 : Int32} {σ : Sg} (hok : ok_L_isSampled_166  x1 x2 x3 x4 x5 x6 x7 x8 y0 σ) (hq : ∀ q : Int32 × Sg, q = f_L_isSampled_166  x1 x2 x3 x4 x5 x6 x7 x8 y0 σ → post q.1 q.2) : o_V p l e { frames := 7, cells := 0, slots := 0, locals := 166 } s m args below meth c (MQ below (va_Qi post (fun σ' t => o_W G σ' t.heap) (o_A G)) args s 0 0 (o_A G)) G 0 0 13 σ 166 [(0, .ref (gAd G 0)), (1, .int x1), (2, .int x2), (3, .int x3), (4, .int x4), (5, .int x5), (6, .int x6), (7, .int x7), (8, .int x8)] [.int y0] := by
  refine r_iload_n (pc := 166) hc 3 dL_isSampled_166 rfl rfl ?_
  refine r_aload_n (pc := 167) hc 0 dL_isSampled_167 rfl rfl ?_
  refine r_bipush (pc := 168) (v := 20) hc dL_isSampled_168 (by decide) ?_
  obtain ⟨hs1, hok⟩ := hok
  refine r_callV_i (pc := 170) (as := [.int _]) hc (c_X5_count l _ hs1) kk5 (o_lt hc (by decide)) rfl mV_X5_count kM_L_19 ⟨Nat.le_of_ble_eq_true rfl, Nat.le_of_ble_eq_true rfl⟩ ⟨Nat.le_of_ble_eq_true rfl, Nat.le_of_ble_eq_true rfl⟩ rfl rfl (Nat.le_of_ble_eq_true rfl) dL_isSampled_170 (fun r σ' h => ?_)
  obtain ⟨rfl, rfl⟩ := h
  refine r_icmp_le (pc := 173) (tgt := 180) hc dL_isSampled_173 (by decide) (fun c173 => ?_) (fun c173 => ?_)
  · have hok := hok.1 c173
    have hq := o_qp hq c173
    refine r_iconst (pc := 180) (v := 0) hc dL_isSampled_180 rfl ?_
    exact o_V.sub (t_L_isSampled_181  hc hr hok hq) [0, 1, 2, 4, 5, 6, 7, 8] rfl
  · have hok := hok.2 c173
    have hq := o_qn hq c173
    refine r_iconst (pc := 176) (v := 1) hc dL_isSampled_176 rfl ?_
    refine r_goto (pc := 177) (tgt := 181) hc dL_isSampled_177 (by decide) ?_
    exact o_V.sub (t_L_isSampled_181  hc hr hok hq) [0, 1, 2, 4, 5, 6, 7, 8] rfl
set_option maxHeartbeats 4000000 in
set_option maxRecDepth 100000 in
theorem t_L_isSampled_153 {p : Program} {l : Launch} {e : Env} {s : State} {m : MethodId} {args : Array Value} {below : List Frame} {meth : Method} {c : Code} {G : Gt} {post : Int32 → Sg → Prop}   (hc : o_Cx p s m args meth c G cL_isSampled yL_isSampled.cls 13) (hr : meth.sig.returnType = (some .boolean)) {x1 : Int32} {x2 : Int32} {x3 : Int32} {x4 : Int32} {x5 : Int32} {x6 : Int32} {x7 : Int32} {x8 : Int32} {y0 : Int32} {y1 : Int32} {σ : Sg} (hok : ok_L_isSampled_153  x1 x2 x3 x4 x5 x6 x7 x8 y0 y1 σ) (hq : ∀ q : Int32 × Sg, q = f_L_isSampled_153  x1 x2 x3 x4 x5 x6 x7 x8 y0 y1 σ → post q.1 q.2) : o_V p l e { frames := 7, cells := 0, slots := 0, locals := 166 } s m args below meth c (MQ below (va_Qi post (fun σ' t => o_W G σ' t.heap) (o_A G)) args s 0 0 (o_A G)) G 0 0 13 σ 153 [(0, .ref (gAd G 0)), (1, .int x1), (2, .int x2), (3, .int x3), (4, .int x4), (5, .int x5), (6, .int x6), (7, .int x7), (8, .int x8)] [.int y0, .int y1] := by
  refine r_icmp_ne (pc := 153) (tgt := 199) hc dL_isSampled_153 (by decide) (fun c153 => ?_) (fun c153 => ?_)
  · have hok := hok.2 c153
    have hq := o_qn hq c153
    exact o_V.sub (t_L_isSampled_199  hc hr hok hq) [0, 1, 2, 4, 5, 6, 7, 8] rfl
  · have hok := hok.1 c153
    have hq := o_qp hq c153
    refine r_iload_n (pc := 156) hc 1 dL_isSampled_156 rfl rfl ?_
    refine r_iconst (pc := 157) (v := 1) hc dL_isSampled_157 rfl ?_
    refine r_icmp_ne (pc := 158) (tgt := 165) hc dL_isSampled_158 (by decide) (fun c158 => ?_) (fun c158 => ?_)
    · have hok := hok.2 c158
      have hq := o_qn hq c158
      refine r_iconst (pc := 165) (v := 0) hc dL_isSampled_165 rfl ?_
      exact o_V.sub (t_L_isSampled_166  hc hr hok hq) [0, 1, 2, 3, 4, 5, 6, 7, 8] rfl
    · have hok := hok.1 c158
      have hq := o_qp hq c158
      refine r_iconst (pc := 161) (v := 1) hc dL_isSampled_161 rfl ?_
      refine r_goto (pc := 162) (tgt := 166) hc dL_isSampled_162 (by decide) ?_
      exact o_V.sub (t_L_isSampled_166  hc hr hok hq) [0, 1, 2, 3, 4, 5, 6, 7, 8] rfl
set_option maxHeartbeats 4000000 in
set_option maxRecDepth 100000 in
theorem t_L_isSampled_117 {p : Program} {l : Launch} {e : Env} {s : State} {m : MethodId} {args : Array Value} {below : List Frame} {meth : Method} {c : Code} {G : Gt} {post : Int32 → Sg → Prop}   (hc : o_Cx p s m args meth c G cL_isSampled yL_isSampled.cls 13) (hr : meth.sig.returnType = (some .boolean)) {x1 : Int32} {x2 : Int32} {x3 : Int32} {x4 : Int32} {x5 : Int32} {x6 : Int32} {x7 : Int32} {y0 : Int32} {σ : Sg} (hok : ok_L_isSampled_117  x1 x2 x3 x4 x5 x6 x7 y0 σ) (hq : ∀ q : Int32 × Sg, q = f_L_isSampled_117  x1 x2 x3 x4 x5 x6 x7 y0 σ → post q.1 q.2) : o_V p l e { frames := 7, cells := 0, slots := 0, locals := 166 } s m args below meth c (MQ below (va_Qi post (fun σ' t => o_W G σ' t.heap) (o_A G)) args s 0 0 (o_A G)) G 0 0 13 σ 117 [(0, .ref (gAd G 0)), (1, .int x1), (2, .int x2), (3, .int x3), (4, .int x4), (5, .int x5), (6, .int x6), (7, .int x7)] [.int y0] := by
  refine r_istore (pc := 117) (lv' := [(8, _), (0, _), (1, _), (2, _), (3, _), (4, _), (5, _), (6, _), (7, _)]) hc dL_isSampled_117 (by decide) rfl ?_
  refine r_aload_n (pc := 119) hc 1 dL_isSampled_119 rfl rfl ?_
  obtain ⟨hs1, hok⟩ := hok
  refine r_callV_i (pc := 120) (as := []) hc (c_X5_sample l _ hs1) kk5 (o_lt hc (by decide)) rfl mV_X5_sample kM_L_85 ⟨Nat.le_of_ble_eq_true rfl, Nat.le_of_ble_eq_true rfl⟩ ⟨Nat.le_of_ble_eq_true rfl, Nat.le_of_ble_eq_true rfl⟩ rfl rfl (Nat.le_of_ble_eq_true rfl) dL_isSampled_120 (fun r σ' h => ?_)
  obtain ⟨rfl, rfl⟩ := h
  refine r_istore (pc := 123) (lv' := [(9, _), (8, _), (0, _), (1, _), (2, _), (3, _), (4, _), (5, _), (6, _), (7, _)]) hc dL_isSampled_123 (by decide) rfl ?_
  refine r_iload_n (pc := 125) hc 3 dL_isSampled_125 rfl rfl ?_
  refine r_if_lt (pc := 126) (tgt := 199) hc dL_isSampled_126 (by decide) (fun c126 => ?_) (fun c126 => ?_)
  · have hok := hok.1 c126
    have hq := o_qp hq c126
    exact o_V.sub (t_L_isSampled_199  hc hr hok hq) [2, 3, 4, 6, 7, 8, 9, 1] rfl
  · have hok := hok.2 c126
    have hq := o_qn hq c126
    refine r_iload_n (pc := 129) hc 3 dL_isSampled_129 rfl rfl ?_
    refine r_iconst (pc := 130) (v := 5) hc dL_isSampled_130 rfl ?_
    refine r_icmp_ge (pc := 131) (tgt := 199) hc dL_isSampled_131 (by decide) (fun c131 => ?_) (fun c131 => ?_)
    · have hok := hok.1 c131
      have hq := o_qp hq c131
      exact o_V.sub (t_L_isSampled_199  hc hr hok hq) [2, 3, 4, 6, 7, 8, 9, 1] rfl
    · have hok := hok.2 c131
      have hq := o_qn hq c131
      refine r_iload (pc := 134) hc 0 dL_isSampled_134 rfl ?_
      refine r_iload_n (pc := 136) hc 3 dL_isSampled_136 rfl rfl ?_
      refine r_if_ne (pc := 137) (tgt := 149) hc dL_isSampled_137 (by decide) (fun c137 => ?_) (fun c137 => ?_)
      · have hok := hok.2 c137
        have hq := o_qn hq c137
        refine r_ldc (pc := 149) (v := 100000) hc kK_L_105 dL_isSampled_149 ?_
        refine r_iload_n (pc := 151) hc 3 dL_isSampled_151 rfl rfl ?_
        refine r_iadd (pc := 152) hc dL_isSampled_152 ?_
        exact o_V.sub (t_L_isSampled_153  hc hr hok hq) [2, 3, 4, 5, 6, 7, 8, 9, 1] rfl
      · have hok := hok.1 c137
        have hq := o_qp hq c137
        refine r_aload_n (pc := 140) hc 2 dL_isSampled_140 rfl rfl ?_
        refine r_bipush (pc := 141) (v := 6) hc dL_isSampled_141 (by decide) ?_
        obtain ⟨hs3, hok⟩ := hok
        refine r_callV_i (pc := 143) (as := [.int _]) hc (c_X5_count l _ hs3) kk5 (o_lt hc (by decide)) rfl mV_X5_count kM_L_19 ⟨Nat.le_of_ble_eq_true rfl, Nat.le_of_ble_eq_true rfl⟩ ⟨Nat.le_of_ble_eq_true rfl, Nat.le_of_ble_eq_true rfl⟩ rfl rfl (Nat.le_of_ble_eq_true rfl) dL_isSampled_143 (fun r σ' h => ?_)
        obtain ⟨rfl, rfl⟩ := h
        refine r_goto (pc := 146) (tgt := 153) hc dL_isSampled_146 (by decide) ?_
        exact o_V.sub (t_L_isSampled_153  hc hr hok hq) [2, 3, 4, 5, 6, 7, 8, 9, 1] rfl
set_option maxHeartbeats 4000000 in
set_option maxRecDepth 100000 in
theorem c_L_isSampled (l : Launch) (G : Gt)   {σ : Sg} (hok : ok_L_isSampled  σ) : o_Ci l G yL_isSampled cL_isSampled 13 (some .boolean) 7 166 [.ref (gAd G 0)] σ (fun r σ' => r = (f_L_isSampled  σ).1 ∧ σ' = (f_L_isSampled  σ).2) := by
  refine o_Ci.of (by decide +kernel) (Nat.le_of_ble_eq_true rfl) ?_
  intro p e s m args below meth c hc hr
  have hq : ∀ q : Int32 × Sg, q = f_L_isSampled  σ → (fun r σ' => r = (f_L_isSampled  σ).1 ∧ σ' = (f_L_isSampled  σ).2) q.1 q.2 := fun q h => ⟨congrArg Prod.fst h, congrArg Prod.snd h⟩
  refine r_aload_n (pc := 0) hc 0 dL_isSampled_0 rfl rfl ?_
  obtain ⟨hs1, hok⟩ := hok
  refine r_callV_i (pc := 1) (as := []) hc (c_X5_reason l _ hs1) kk5 (o_lt hc (by decide)) rfl mV_X5_reason kM_L_88 ⟨Nat.le_of_ble_eq_true rfl, Nat.le_of_ble_eq_true rfl⟩ ⟨Nat.le_of_ble_eq_true rfl, Nat.le_of_ble_eq_true rfl⟩ rfl rfl (Nat.le_of_ble_eq_true rfl) dL_isSampled_1 (fun r σ' h => ?_)
  obtain ⟨rfl, rfl⟩ := h
  refine r_istore_n (pc := 4) (lv' := [(1, _), (0, _)]) hc dL_isSampled_4 rfl (by decide) rfl ?_
  refine r_aload_n (pc := 5) hc 1 dL_isSampled_5 rfl rfl ?_
  refine r_iconst (pc := 6) (v := 3) hc dL_isSampled_6 rfl ?_
  obtain ⟨hs3, hok⟩ := hok
  refine r_callV_i (pc := 7) (as := [.int _]) hc (c_X5_count l _ hs3) kk5 (o_lt hc (by decide)) rfl mV_X5_count kM_L_19 ⟨Nat.le_of_ble_eq_true rfl, Nat.le_of_ble_eq_true rfl⟩ ⟨Nat.le_of_ble_eq_true rfl, Nat.le_of_ble_eq_true rfl⟩ rfl rfl (Nat.le_of_ble_eq_true rfl) dL_isSampled_7 (fun r σ' h => ?_)
  obtain ⟨rfl, rfl⟩ := h
  refine r_if_ne (pc := 10) (tgt := 34) hc dL_isSampled_10 (by decide) (fun c10 => ?_) (fun c10 => ?_)
  · have hok := hok.2 c10
    have hq := o_qn hq c10
    refine r_aload_n (pc := 34) hc 1 dL_isSampled_34 rfl rfl ?_
    refine r_iconst (pc := 35) (v := 0) hc dL_isSampled_35 rfl ?_
    obtain ⟨hs4, hok⟩ := hok
    refine r_callV_i (pc := 36) (as := [.int _]) hc (c_X5_look l _ hs4) kk5 (o_lt hc (by decide)) rfl mV_X5_look kM_L_66 ⟨Nat.le_of_ble_eq_true rfl, Nat.le_of_ble_eq_true rfl⟩ ⟨Nat.le_of_ble_eq_true rfl, Nat.le_of_ble_eq_true rfl⟩ rfl rfl (Nat.le_of_ble_eq_true rfl) dL_isSampled_36 (fun r σ' h => ?_)
    obtain ⟨rfl, rfl⟩ := h
    refine r_istore_n (pc := 39) (lv' := [(2, _), (1, _), (0, _)]) hc dL_isSampled_39 rfl (by decide) rfl ?_
    refine r_aload_n (pc := 40) hc 2 dL_isSampled_40 rfl rfl ?_
    refine r_iconst (pc := 41) (v := 1) hc dL_isSampled_41 rfl ?_
    obtain ⟨hs6, hok⟩ := hok
    refine r_callV_i (pc := 42) (as := [.int _]) hc (c_X5_look l _ hs6) kk5 (o_lt hc (by decide)) rfl mV_X5_look kM_L_66 ⟨Nat.le_of_ble_eq_true rfl, Nat.le_of_ble_eq_true rfl⟩ ⟨Nat.le_of_ble_eq_true rfl, Nat.le_of_ble_eq_true rfl⟩ rfl rfl (Nat.le_of_ble_eq_true rfl) dL_isSampled_42 (fun r σ' h => ?_)
    obtain ⟨rfl, rfl⟩ := h
    refine r_istore_n (pc := 45) (lv' := [(3, _), (2, _), (1, _), (0, _)]) hc dL_isSampled_45 rfl (by decide) rfl ?_
    refine r_aload_n (pc := 46) hc 3 dL_isSampled_46 rfl rfl ?_
    refine r_iconst (pc := 47) (v := 2) hc dL_isSampled_47 rfl ?_
    obtain ⟨hs8, hok⟩ := hok
    refine r_callV_i (pc := 48) (as := [.int _]) hc (c_X5_count l _ hs8) kk5 (o_lt hc (by decide)) rfl mV_X5_count kM_L_19 ⟨Nat.le_of_ble_eq_true rfl, Nat.le_of_ble_eq_true rfl⟩ ⟨Nat.le_of_ble_eq_true rfl, Nat.le_of_ble_eq_true rfl⟩ rfl rfl (Nat.le_of_ble_eq_true rfl) dL_isSampled_48 (fun r σ' h => ?_)
    obtain ⟨rfl, rfl⟩ := h
    refine r_istore (pc := 51) (lv' := [(4, _), (3, _), (2, _), (1, _), (0, _)]) hc dL_isSampled_51 (by decide) rfl ?_
    refine r_aload_n (pc := 53) hc 4 dL_isSampled_53 rfl rfl ?_
    refine r_bipush (pc := 54) (v := 6) hc dL_isSampled_54 (by decide) ?_
    obtain ⟨hs9, hok⟩ := hok
    refine r_callV_i (pc := 56) (as := [.int _]) hc (c_X5_count l _ hs9) kk5 (o_lt hc (by decide)) rfl mV_X5_count kM_L_19 ⟨Nat.le_of_ble_eq_true rfl, Nat.le_of_ble_eq_true rfl⟩ ⟨Nat.le_of_ble_eq_true rfl, Nat.le_of_ble_eq_true rfl⟩ rfl rfl (Nat.le_of_ble_eq_true rfl) dL_isSampled_56 (fun r σ' h => ?_)
    obtain ⟨rfl, rfl⟩ := h
    refine r_istore (pc := 59) (lv' := [(5, _), (4, _), (3, _), (2, _), (1, _), (0, _)]) hc dL_isSampled_59 (by decide) rfl ?_
    refine r_aload_n (pc := 61) hc 5 dL_isSampled_61 rfl rfl ?_
    refine r_bipush (pc := 62) (v := 7) hc dL_isSampled_62 (by decide) ?_
    obtain ⟨hs10, hok⟩ := hok
    refine r_callV_i (pc := 64) (as := [.int _]) hc (c_X5_count l _ hs10) kk5 (o_lt hc (by decide)) rfl mV_X5_count kM_L_19 ⟨Nat.le_of_ble_eq_true rfl, Nat.le_of_ble_eq_true rfl⟩ ⟨Nat.le_of_ble_eq_true rfl, Nat.le_of_ble_eq_true rfl⟩ rfl rfl (Nat.le_of_ble_eq_true rfl) dL_isSampled_64 (fun r σ' h => ?_)
    obtain ⟨rfl, rfl⟩ := h
    refine r_istore (pc := 67) (lv' := [(6, _), (5, _), (4, _), (3, _), (2, _), (1, _), (0, _)]) hc dL_isSampled_67 (by decide) rfl ?_
    refine r_iload_n (pc := 69) hc 4 dL_isSampled_69 rfl rfl ?_
    refine r_sipush (pc := 70) (v := 1020) hc dL_isSampled_70 (by decide) ?_
    refine r_idiv (pc := 73) hc dL_isSampled_73 (by decide) ?_
    refine r_iload (pc := 74) hc 2 dL_isSampled_74 rfl ?_
    refine r_isub (pc := 76) hc dL_isSampled_76 ?_
    refine r_iconst (pc := 77) (v := 4) hc dL_isSampled_77 rfl ?_
    obtain ⟨hs11, hok⟩ := hok
    refine r_callS_i (pc := 78) (as := [.int _, .int _]) hc (c_L_rest l _ hs11) mS_L_rest kM_L_9 ⟨Nat.le_of_ble_eq_true rfl, Nat.le_of_ble_eq_true rfl⟩ ⟨Nat.le_of_ble_eq_true rfl, Nat.le_of_ble_eq_true rfl⟩ rfl rfl (Nat.le_of_ble_eq_true rfl) dL_isSampled_78 (fun r σ' h => ?_)
    obtain ⟨rfl, rfl⟩ := h
    refine r_istore (pc := 81) (lv' := [(7, _), (6, _), (5, _), (4, _), (3, _), (2, _), (1, _), (0, _)]) hc dL_isSampled_81 (by decide) rfl ?_
    refine r_aload_n (pc := 83) hc 7 dL_isSampled_83 rfl rfl ?_
    refine r_bipush (pc := 84) (v := 8) hc dL_isSampled_84 (by decide) ?_
    obtain ⟨hs13, hok⟩ := hok
    refine r_callV_i (pc := 86) (as := [.int _]) hc (c_X5_count l _ hs13) kk5 (o_lt hc (by decide)) rfl mV_X5_count kM_L_19 ⟨Nat.le_of_ble_eq_true rfl, Nat.le_of_ble_eq_true rfl⟩ ⟨Nat.le_of_ble_eq_true rfl, Nat.le_of_ble_eq_true rfl⟩ rfl rfl (Nat.le_of_ble_eq_true rfl) dL_isSampled_86 (fun r σ' h => ?_)
    obtain ⟨rfl, rfl⟩ := h
    refine r_iload_n (pc := 89) hc 5 dL_isSampled_89 rfl rfl ?_
    refine r_bipush (pc := 90) (v := 64) hc dL_isSampled_90 (by decide) ?_
    refine r_imul (pc := 92) hc dL_isSampled_92 ?_
    refine r_sipush (pc := 93) (v := 4080) hc dL_isSampled_93 (by decide) ?_
    refine r_idiv (pc := 96) hc dL_isSampled_96 (by decide) ?_
    refine r_isub (pc := 97) hc dL_isSampled_97 ?_
    refine r_bipush (pc := 98) (v := 64) hc dL_isSampled_98 (by decide) ?_
    obtain ⟨hs14, hok⟩ := hok
    refine r_callS_i (pc := 100) (as := [.int _, .int _]) hc (c_L_near l _ hs14) mS_L_near kM_L_95 ⟨Nat.le_of_ble_eq_true rfl, Nat.le_of_ble_eq_true rfl⟩ ⟨Nat.le_of_ble_eq_true rfl, Nat.le_of_ble_eq_true rfl⟩ rfl rfl (Nat.le_of_ble_eq_true rfl) dL_isSampled_100 (fun r σ' h => ?_)
    obtain ⟨rfl, rfl⟩ := h
    refine r_aload_n (pc := 103) hc 7 dL_isSampled_103 rfl rfl ?_
    refine r_bipush (pc := 104) (v := 21) hc dL_isSampled_104 (by decide) ?_
    obtain ⟨hs16, hok⟩ := hok
    refine r_callV_i (pc := 106) (as := [.int _]) hc (c_X5_count l _ hs16) kk5 (o_lt hc (by decide)) rfl mV_X5_count kM_L_19 ⟨Nat.le_of_ble_eq_true rfl, Nat.le_of_ble_eq_true rfl⟩ ⟨Nat.le_of_ble_eq_true rfl, Nat.le_of_ble_eq_true rfl⟩ rfl rfl (Nat.le_of_ble_eq_true rfl) dL_isSampled_106 (fun r σ' h => ?_)
    obtain ⟨rfl, rfl⟩ := h
    refine r_icmp_le (pc := 109) (tgt := 116) hc dL_isSampled_109 (by decide) (fun c109 => ?_) (fun c109 => ?_)
    · have hok := hok.1 c109
      have hq := o_qp hq c109
      refine r_iconst (pc := 116) (v := 0) hc dL_isSampled_116 rfl ?_
      exact o_V.sub (t_L_isSampled_117  hc hr hok hq) [7, 6, 5, 4, 3, 2, 1, 0] rfl
    · have hok := hok.2 c109
      have hq := o_qn hq c109
      refine r_iconst (pc := 112) (v := 1) hc dL_isSampled_112 rfl ?_
      refine r_goto (pc := 113) (tgt := 117) hc dL_isSampled_113 (by decide) ?_
      exact o_V.sub (t_L_isSampled_117  hc hr hok hq) [7, 6, 5, 4, 3, 2, 1, 0] rfl
  · have hok := hok.1 c10
    have hq := o_qp hq c10
    refine r_iload_n (pc := 13) hc 0 dL_isSampled_13 rfl rfl ?_
    refine r_bipush (pc := 14) (v := (-2)) hc dL_isSampled_14 (by decide) ?_
    refine r_icmp_ne (pc := 16) (tgt := 32) hc dL_isSampled_16 (by decide) (fun c16 => ?_) (fun c16 => ?_)
    · have hok := hok.2 c16
      have hq := o_qn hq c16
      refine r_iconst (pc := 32) (v := 0) hc dL_isSampled_32 rfl ?_
      exact r_iret hc hr rfl dL_isSampled_33 (hq (_, _) rfl)
    · have hok := hok.1 c16
      have hq := o_qp hq c16
      refine r_aload_n (pc := 19) hc 1 dL_isSampled_19 rfl rfl ?_
      obtain ⟨hs17, hok⟩ := hok
      refine r_callV_i (pc := 20) (as := []) hc (c_X5_sample l _ hs17) kk5 (o_lt hc (by decide)) rfl mV_X5_sample kM_L_85 ⟨Nat.le_of_ble_eq_true rfl, Nat.le_of_ble_eq_true rfl⟩ ⟨Nat.le_of_ble_eq_true rfl, Nat.le_of_ble_eq_true rfl⟩ rfl rfl (Nat.le_of_ble_eq_true rfl) dL_isSampled_20 (fun r σ' h => ?_)
      obtain ⟨rfl, rfl⟩ := h
      refine r_bipush (pc := 23) (v := (-2)) hc dL_isSampled_23 (by decide) ?_
      refine r_icmp_ne (pc := 25) (tgt := 32) hc dL_isSampled_25 (by decide) (fun c25 => ?_) (fun c25 => ?_)
      · have hok := hok.2 c25
        have hq := o_qn hq c25
        refine r_iconst (pc := 32) (v := 0) hc dL_isSampled_32 rfl ?_
        exact r_iret hc hr rfl dL_isSampled_33 (hq (_, _) rfl)
      · have hok := hok.1 c25
        have hq := o_qp hq c25
        refine r_iconst (pc := 28) (v := 1) hc dL_isSampled_28 rfl ?_
        refine r_goto (pc := 29) (tgt := 33) hc dL_isSampled_29 (by decide) ?_
        exact r_iret hc hr rfl dL_isSampled_33 (hq (_, _) rfl)
noncomputable def f_L_isLearned_162  (x1 : Int32) (x2 : Int32) (x3 : Int32) (x5 : Int32) (x6 : Int32) (σ : Sg) : Int32 × Sg :=
  o_ite (x6 = 0) (
    (0, σ)) (
    o_ite (x5 = x3) (
      o_ite ((f_L_byTable x2 0 σ) = x1) (
        o_ite ((f_L_byTable x2 1 σ) = 0) (
          let q4 := f_X5_look 2 σ
          o_ite ((q4.1 / 510) = x2) (
            let q6 := f_X5_look 0 q4.2
            o_ite (q6.1 = x1) (
              let q8 := f_X5_look 1 q6.2
              o_ite (q8.1 = 0) (
                let q10 := f_X5_look 3 q8.2
                o_ite (q10.1 = 2) (
                  (1, q10.2)) (
                  (0, q10.2))) (
                (0, q8.2))) (
              (0, q6.2))) (
            (1, q4.2))) (
          (0, σ))) (
        (0, σ))) (
      (0, σ)))
def ok_L_isLearned_162  (x1 : Int32) (x2 : Int32) (x3 : Int32) (x5 : Int32) (x6 : Int32) (σ : Sg) : Prop :=
  ((x6 = 0) →
    True) ∧ (¬ (x6 = 0) →
    ((x5 = x3) →
      (ok_L_byTable x2 0 σ) ∧ ((((f_L_byTable x2 0 σ) = x1) →
        (ok_L_byTable x2 1 σ) ∧ ((((f_L_byTable x2 1 σ) = 0) →
          (ok_X5_look 2 σ) ∧ (let q4 := f_X5_look 2 σ
          (((q4.1 / 510) = x2) →
            (ok_X5_look 0 q4.2) ∧ (let q6 := f_X5_look 0 q4.2
            ((q6.1 = x1) →
              (ok_X5_look 1 q6.2) ∧ (let q8 := f_X5_look 1 q6.2
              ((q8.1 = 0) →
                (ok_X5_look 3 q8.2) ∧ (let q10 := f_X5_look 3 q8.2
                ((q10.1 = 2) →
                  True) ∧ (¬ (q10.1 = 2) →
                  True))) ∧ (¬ (q8.1 = 0) →
                True))) ∧ (¬ (q6.1 = x1) →
              True))) ∧ (¬ ((q4.1 / 510) = x2) →
            True))) ∧ (¬ ((f_L_byTable x2 1 σ) = 0) →
          True))) ∧ (¬ ((f_L_byTable x2 0 σ) = x1) →
        True))) ∧ (¬ (x5 = x3) →
      True))
noncomputable def f_L_isLearned_103 (K : Int32 → Int32 → Int32 → Int32 → Int32 → Int32 → Sg → Int32 × Sg) (x1 : Int32) (x2 : Int32) (x5 : Int32) (x7 : Int32) (x8 : Int32) (y0 : Int32) (y1 : Int32) (σ : Sg) : Int32 × Sg :=
  o_ite (x8 ≤ 81) (
    K x1 x2 (y1 + y0) x5 0 (x7 + 1) σ) (
    o_ite (119 ≤ x8) (
      K x1 x2 (y1 + y0) x5 0 (x7 + 1) σ) (
      let r4 := f_L_rest (((f_X5_reading x7 σ) - x8) + 100) (f_L_period x7 σ) σ
      o_ite (r4 = (x1 - x1 / (f_L_period x7 σ) * (f_L_period x7 σ))) (
        K x1 x2 (y1 + y0) x5 1 (x7 + 1) σ) (
        K x1 x2 (y1 + y0) x5 0 (x7 + 1) σ)))
def ok_L_isLearned_103 (okK : Int32 → Int32 → Int32 → Int32 → Int32 → Int32 → Sg → Prop) (x1 : Int32) (x2 : Int32) (x5 : Int32) (x7 : Int32) (x8 : Int32) (y0 : Int32) (y1 : Int32) (σ : Sg) : Prop :=
  ((x8 ≤ 81) →
    okK x1 x2 (y1 + y0) x5 0 (x7 + 1) σ) ∧ (¬ (x8 ≤ 81) →
    ((119 ≤ x8) →
      okK x1 x2 (y1 + y0) x5 0 (x7 + 1) σ) ∧ (¬ (119 ≤ x8) →
      (ok_X5_reading x7 σ) ∧ ((ok_L_period x7 σ) ∧ ((ok_L_rest (((f_X5_reading x7 σ) - x8) + 100) (f_L_period x7 σ) σ) ∧ (let r4 := f_L_rest (((f_X5_reading x7 σ) - x8) + 100) (f_L_period x7 σ) σ
      (ok_L_period x7 σ) ∧ ((¬ (f_L_period x7 σ) = 0) ∧ (((r4 = (x1 - x1 / (f_L_period x7 σ) * (f_L_period x7 σ))) →
        okK x1 x2 (y1 + y0) x5 1 (x7 + 1) σ) ∧ (¬ (r4 = (x1 - x1 / (f_L_period x7 σ) * (f_L_period x7 σ))) →
        okK x1 x2 (y1 + y0) x5 0 (x7 + 1) σ))))))))
noncomputable def f_L_isLearned_67  : Nat → Int32 → Int32 → Int32 → Int32 → Int32 → Int32 → Sg → Int32 × Sg
  | 0 => fun _ _ _ _ _ _ σ => (0, σ)
  | n + 1 => fun x1 x2 x3 x5 x6 x7 σ =>
    o_ite (3 ≤ x7) (
      f_L_isLearned_162 x1 x2 x3 x5 x6 σ) (
      o_ite (x6 = 0) (
        f_L_isLearned_162 x1 x2 x3 x5 x6 σ) (
        o_ite ((f_X5_correction x7 x2 σ) = (σ 34 x7.toNatClampNeg)) (
          f_L_isLearned_103 (f_L_isLearned_67 n) x1 x2 x5 x7 (f_X5_correction x7 x2 σ) 0 x3 σ) (
          f_L_isLearned_103 (f_L_isLearned_67 n) x1 x2 x5 x7 (f_X5_correction x7 x2 σ) 1 x3 σ)))
def ok_L_isLearned_67  : Nat → Int32 → Int32 → Int32 → Int32 → Int32 → Int32 → Sg → Prop
  | 0 => fun _ _ _ _ _ _ _ => False
  | n + 1 => fun x1 x2 x3 x5 x6 x7 σ =>
    ((3 ≤ x7) →
      ok_L_isLearned_162 x1 x2 x3 x5 x6 σ) ∧ (¬ (3 ≤ x7) →
      ((x6 = 0) →
        ok_L_isLearned_162 x1 x2 x3 x5 x6 σ) ∧ (¬ (x6 = 0) →
        (ok_X5_correction x7 x2 σ) ∧ ((vp_in x7 3) ∧ ((((f_X5_correction x7 x2 σ) = (σ 34 x7.toNatClampNeg)) →
          ok_L_isLearned_103 (ok_L_isLearned_67 n) x1 x2 x5 x7 (f_X5_correction x7 x2 σ) 0 x3 σ) ∧ (¬ ((f_X5_correction x7 x2 σ) = (σ 34 x7.toNatClampNeg)) →
          ok_L_isLearned_103 (ok_L_isLearned_67 n) x1 x2 x5 x7 (f_X5_correction x7 x2 σ) 1 x3 σ)))))
noncomputable def f_L_isLearned_22  : Nat → Int32 → Int32 → Int32 → Int32 → Sg → Int32 × Sg
  | 0 => fun _ _ _ _ σ => (0, σ)
  | n + 1 => fun x1 x2 x3 x5 σ =>
    o_ite (3 ≤ x5) (
      let q2 := f_X5_learn σ
      o_ite (q2.1 < 0) (
        f_L_isLearned_67  oF x1 x2 x3 (q2.1) 0 0 q2.2) (
        f_L_isLearned_67  oF x1 x2 x3 (q2.1) 1 0 q2.2)) (
      let σ5 := pu σ 34 x5.toNatClampNeg (f_X5_correction x5 x2 σ)
      f_L_isLearned_22 n x1 x2 x3 (x5 + 1) σ5)
def ok_L_isLearned_22  : Nat → Int32 → Int32 → Int32 → Int32 → Sg → Prop
  | 0 => fun _ _ _ _ _ => False
  | n + 1 => fun x1 x2 x3 x5 σ =>
    ((3 ≤ x5) →
      (ok_X5_learn σ) ∧ (let q2 := f_X5_learn σ
      ((q2.1 < 0) →
        ok_L_isLearned_67  oF x1 x2 x3 (q2.1) 0 0 q2.2) ∧ (¬ (q2.1 < 0) →
        ok_L_isLearned_67  oF x1 x2 x3 (q2.1) 1 0 q2.2))) ∧ (¬ (3 ≤ x5) →
      (ok_X5_correction x5 x2 σ) ∧ ((vp_in x5 3) ∧ (let σ5 := pu σ 34 x5.toNatClampNeg (f_X5_correction x5 x2 σ)
      ok_L_isLearned_22  n x1 x2 x3 (x5 + 1) σ5)))
noncomputable def f_L_isLearned  (σ : Sg) : Int32 × Sg :=
  let σ2 := nz σ
  f_L_isLearned_22  oF (f_X5_count 1 σ) ((f_X5_count 1 σ) / 510) 0 0 σ2
def ok_L_isLearned  (σ : Sg) : Prop :=
  (ok_X5_count 1 σ) ∧ (let σ2 := nz σ
  ok_L_isLearned_22  oF (f_X5_count 1 σ) ((f_X5_count 1 σ) / 510) 0 0 σ2)
set_option maxHeartbeats 4000000 in
set_option maxRecDepth 100000 in
theorem t_L_isLearned_162 {p : Program} {l : Launch} {e : Env} {s : State} {m : MethodId} {args : Array Value} {below : List Frame} {meth : Method} {c : Code} {G : Gt} {post : Int32 → Sg → Prop}  (hX : 34 < gN G) (hc : o_Cx p s m args meth c G cL_isLearned yL_isLearned.cls 9) (hr : meth.sig.returnType = (some .boolean)) {x1 : Int32} {x2 : Int32} {x3 : Int32} {x5 : Int32} {x6 : Int32} {σ : Sg} (hok : ok_L_isLearned_162  x1 x2 x3 x5 x6 σ) (hq : ∀ q : Int32 × Sg, q = f_L_isLearned_162  x1 x2 x3 x5 x6 σ → post q.1 q.2) : o_V p l e { frames := 7, cells := 1, slots := 3, locals := 166 } s m args below meth c (MQ below (va_Qi post (fun σ' t => o_W G σ' t.heap) (o_A G)) args s 1 3 (o_A G)) G 1 3 9 σ 162 [(0, .ref (gAd G 0)), (1, .int x1), (2, .int x2), (3, .int x3), (5, .int x5), (6, .int x6)] [] := by
  refine r_iload (pc := 162) hc 5 dL_isLearned_162 rfl ?_
  refine r_if_eq (pc := 164) (tgt := 235) hc dL_isLearned_164 (by decide) (fun c164 => ?_) (fun c164 => ?_)
  · have hok := hok.1 c164
    have hq := o_qp hq c164
    refine r_iconst (pc := 235) (v := 0) hc dL_isLearned_235 rfl ?_
    exact r_iret hc hr rfl dL_isLearned_236 (hq (_, _) rfl)
  · have hok := hok.2 c164
    have hq := o_qn hq c164
    refine r_iload (pc := 167) hc 4 dL_isLearned_167 rfl ?_
    refine r_iload_n (pc := 169) hc 3 dL_isLearned_169 rfl rfl ?_
    refine r_icmp_ne (pc := 170) (tgt := 235) hc dL_isLearned_170 (by decide) (fun c170 => ?_) (fun c170 => ?_)
    · have hok := hok.2 c170
      have hq := o_qn hq c170
      refine r_iconst (pc := 235) (v := 0) hc dL_isLearned_235 rfl ?_
      exact r_iret hc hr rfl dL_isLearned_236 (hq (_, _) rfl)
    · have hok := hok.1 c170
      have hq := o_qp hq c170
      refine r_aload_n (pc := 173) hc 0 dL_isLearned_173 rfl rfl ?_
      refine r_iload_n (pc := 174) hc 2 dL_isLearned_174 rfl rfl ?_
      refine r_iconst (pc := 175) (v := 0) hc dL_isLearned_175 rfl ?_
      obtain ⟨hs1, hok⟩ := hok
      refine r_callS_i (pc := 176) (as := [.ref (gAd G _), .int _, .int _]) hc (c_L_byTable l _ hs1) mS_L_byTable kM_L_101 ⟨Nat.le_of_ble_eq_true rfl, Nat.le_of_ble_eq_true rfl⟩ ⟨Nat.le_of_ble_eq_true rfl, Nat.le_of_ble_eq_true rfl⟩ rfl rfl (Nat.le_of_ble_eq_true rfl) dL_isLearned_176 (fun r σ' h => ?_)
      obtain ⟨rfl, rfl⟩ := h
      refine r_iload_n (pc := 179) hc 1 dL_isLearned_179 rfl rfl ?_
      refine r_icmp_ne (pc := 180) (tgt := 235) hc dL_isLearned_180 (by decide) (fun c180 => ?_) (fun c180 => ?_)
      · have hok := hok.2 c180
        have hq := o_qn hq c180
        refine r_iconst (pc := 235) (v := 0) hc dL_isLearned_235 rfl ?_
        exact r_iret hc hr rfl dL_isLearned_236 (hq (_, _) rfl)
      · have hok := hok.1 c180
        have hq := o_qp hq c180
        refine r_aload_n (pc := 183) hc 0 dL_isLearned_183 rfl rfl ?_
        refine r_iload_n (pc := 184) hc 2 dL_isLearned_184 rfl rfl ?_
        refine r_iconst (pc := 185) (v := 1) hc dL_isLearned_185 rfl ?_
        obtain ⟨hs2, hok⟩ := hok
        refine r_callS_i (pc := 186) (as := [.ref (gAd G _), .int _, .int _]) hc (c_L_byTable l _ hs2) mS_L_byTable kM_L_101 ⟨Nat.le_of_ble_eq_true rfl, Nat.le_of_ble_eq_true rfl⟩ ⟨Nat.le_of_ble_eq_true rfl, Nat.le_of_ble_eq_true rfl⟩ rfl rfl (Nat.le_of_ble_eq_true rfl) dL_isLearned_186 (fun r σ' h => ?_)
        obtain ⟨rfl, rfl⟩ := h
        refine r_if_ne (pc := 189) (tgt := 235) hc dL_isLearned_189 (by decide) (fun c189 => ?_) (fun c189 => ?_)
        · have hok := hok.2 c189
          have hq := o_qn hq c189
          refine r_iconst (pc := 235) (v := 0) hc dL_isLearned_235 rfl ?_
          exact r_iret hc hr rfl dL_isLearned_236 (hq (_, _) rfl)
        · have hok := hok.1 c189
          have hq := o_qp hq c189
          refine r_aload_n (pc := 192) hc 0 dL_isLearned_192 rfl rfl ?_
          refine r_iconst (pc := 193) (v := 2) hc dL_isLearned_193 rfl ?_
          obtain ⟨hs3, hok⟩ := hok
          refine r_callV_i (pc := 194) (as := [.int _]) hc (c_X5_look l _ hs3) kk5 (o_lt hc (by decide)) rfl mV_X5_look kM_L_66 ⟨Nat.le_of_ble_eq_true rfl, Nat.le_of_ble_eq_true rfl⟩ ⟨Nat.le_of_ble_eq_true rfl, Nat.le_of_ble_eq_true rfl⟩ rfl rfl (Nat.le_of_ble_eq_true rfl) dL_isLearned_194 (fun r σ' h => ?_)
          obtain ⟨rfl, rfl⟩ := h
          refine r_sipush (pc := 197) (v := 510) hc dL_isLearned_197 (by decide) ?_
          refine r_idiv (pc := 200) hc dL_isLearned_200 (by decide) ?_
          refine r_iload_n (pc := 201) hc 2 dL_isLearned_201 rfl rfl ?_
          refine r_icmp_ne (pc := 202) (tgt := 231) hc dL_isLearned_202 (by decide) (fun c202 => ?_) (fun c202 => ?_)
          · have hok := hok.2 c202
            have hq := o_qn hq c202
            refine r_iconst (pc := 231) (v := 1) hc dL_isLearned_231 rfl ?_
            refine r_goto (pc := 232) (tgt := 236) hc dL_isLearned_232 (by decide) ?_
            exact r_iret hc hr rfl dL_isLearned_236 (hq (_, _) rfl)
          · have hok := hok.1 c202
            have hq := o_qp hq c202
            refine r_aload_n (pc := 205) hc 0 dL_isLearned_205 rfl rfl ?_
            refine r_iconst (pc := 206) (v := 0) hc dL_isLearned_206 rfl ?_
            obtain ⟨hs5, hok⟩ := hok
            refine r_callV_i (pc := 207) (as := [.int _]) hc (c_X5_look l _ hs5) kk5 (o_lt hc (by decide)) rfl mV_X5_look kM_L_66 ⟨Nat.le_of_ble_eq_true rfl, Nat.le_of_ble_eq_true rfl⟩ ⟨Nat.le_of_ble_eq_true rfl, Nat.le_of_ble_eq_true rfl⟩ rfl rfl (Nat.le_of_ble_eq_true rfl) dL_isLearned_207 (fun r σ' h => ?_)
            obtain ⟨rfl, rfl⟩ := h
            refine r_iload_n (pc := 210) hc 1 dL_isLearned_210 rfl rfl ?_
            refine r_icmp_ne (pc := 211) (tgt := 235) hc dL_isLearned_211 (by decide) (fun c211 => ?_) (fun c211 => ?_)
            · have hok := hok.2 c211
              have hq := o_qn hq c211
              refine r_iconst (pc := 235) (v := 0) hc dL_isLearned_235 rfl ?_
              exact r_iret hc hr rfl dL_isLearned_236 (hq (_, _) rfl)
            · have hok := hok.1 c211
              have hq := o_qp hq c211
              refine r_aload_n (pc := 214) hc 0 dL_isLearned_214 rfl rfl ?_
              refine r_iconst (pc := 215) (v := 1) hc dL_isLearned_215 rfl ?_
              obtain ⟨hs7, hok⟩ := hok
              refine r_callV_i (pc := 216) (as := [.int _]) hc (c_X5_look l _ hs7) kk5 (o_lt hc (by decide)) rfl mV_X5_look kM_L_66 ⟨Nat.le_of_ble_eq_true rfl, Nat.le_of_ble_eq_true rfl⟩ ⟨Nat.le_of_ble_eq_true rfl, Nat.le_of_ble_eq_true rfl⟩ rfl rfl (Nat.le_of_ble_eq_true rfl) dL_isLearned_216 (fun r σ' h => ?_)
              obtain ⟨rfl, rfl⟩ := h
              refine r_if_ne (pc := 219) (tgt := 235) hc dL_isLearned_219 (by decide) (fun c219 => ?_) (fun c219 => ?_)
              · have hok := hok.2 c219
                have hq := o_qn hq c219
                refine r_iconst (pc := 235) (v := 0) hc dL_isLearned_235 rfl ?_
                exact r_iret hc hr rfl dL_isLearned_236 (hq (_, _) rfl)
              · have hok := hok.1 c219
                have hq := o_qp hq c219
                refine r_aload_n (pc := 222) hc 0 dL_isLearned_222 rfl rfl ?_
                refine r_iconst (pc := 223) (v := 3) hc dL_isLearned_223 rfl ?_
                obtain ⟨hs9, hok⟩ := hok
                refine r_callV_i (pc := 224) (as := [.int _]) hc (c_X5_look l _ hs9) kk5 (o_lt hc (by decide)) rfl mV_X5_look kM_L_66 ⟨Nat.le_of_ble_eq_true rfl, Nat.le_of_ble_eq_true rfl⟩ ⟨Nat.le_of_ble_eq_true rfl, Nat.le_of_ble_eq_true rfl⟩ rfl rfl (Nat.le_of_ble_eq_true rfl) dL_isLearned_224 (fun r σ' h => ?_)
                obtain ⟨rfl, rfl⟩ := h
                refine r_iconst (pc := 227) (v := 2) hc dL_isLearned_227 rfl ?_
                refine r_icmp_ne (pc := 228) (tgt := 235) hc dL_isLearned_228 (by decide) (fun c228 => ?_) (fun c228 => ?_)
                · have hok := hok.2 c228
                  have hq := o_qn hq c228
                  refine r_iconst (pc := 235) (v := 0) hc dL_isLearned_235 rfl ?_
                  exact r_iret hc hr rfl dL_isLearned_236 (hq (_, _) rfl)
                · have hok := hok.1 c228
                  have hq := o_qp hq c228
                  refine r_iconst (pc := 231) (v := 1) hc dL_isLearned_231 rfl ?_
                  refine r_goto (pc := 232) (tgt := 236) hc dL_isLearned_232 (by decide) ?_
                  exact r_iret hc hr rfl dL_isLearned_236 (hq (_, _) rfl)
set_option maxHeartbeats 4000000 in
set_option maxRecDepth 100000 in
theorem t_L_isLearned_103 {p : Program} {l : Launch} {e : Env} {s : State} {m : MethodId} {args : Array Value} {below : List Frame} {meth : Method} {c : Code} {G : Gt} {post : Int32 → Sg → Prop} (hX : 34 < gN G) (hc : o_Cx p s m args meth c G cL_isLearned yL_isLearned.cls 9) (hr : meth.sig.returnType = (some .boolean)) {K : Int32 → Int32 → Int32 → Int32 → Int32 → Int32 → Sg → Int32 × Sg} {okK : Int32 → Int32 → Int32 → Int32 → Int32 → Int32 → Sg → Prop} (hK : ∀ (z1 : Int32) (z2 : Int32) (z3 : Int32) (z5 : Int32) (z6 : Int32) (z7 : Int32) (zs : Sg), okK z1 z2 z3 z5 z6 z7 zs → (∀ q : Int32 × Sg, q = K z1 z2 z3 z5 z6 z7 zs → post q.1 q.2) → o_V p l e { frames := 7, cells := 1, slots := 3, locals := 166 } s m args below meth c (MQ below (va_Qi post (fun σ' t => o_W G σ' t.heap) (o_A G)) args s 1 3 (o_A G)) G 1 3 9 zs 67 [(0, .ref (gAd G 0)), (1, .int z1), (2, .int z2), (3, .int z3), (4, .ref (gAd G 34)), (5, .int z5), (6, .int z6), (7, .int z7)] []) {x1 : Int32} {x2 : Int32} {x5 : Int32} {x7 : Int32} {x8 : Int32} {y0 : Int32} {y1 : Int32} {σ : Sg} (hok : ok_L_isLearned_103 okK x1 x2 x5 x7 x8 y0 y1 σ) (hq : ∀ q : Int32 × Sg, q = f_L_isLearned_103 K x1 x2 x5 x7 x8 y0 y1 σ → post q.1 q.2) : o_V p l e { frames := 7, cells := 1, slots := 3, locals := 166 } s m args below meth c (MQ below (va_Qi post (fun σ' t => o_W G σ' t.heap) (o_A G)) args s 1 3 (o_A G)) G 1 3 9 σ 103 [(0, .ref (gAd G 0)), (1, .int x1), (2, .int x2), (4, .ref (gAd G 34)), (5, .int x5), (7, .int x7), (8, .int x8)] [.int y0, .int y1] := by
  refine r_iadd (pc := 103) hc dL_isLearned_103 ?_
  refine r_istore_n (pc := 104) (lv' := [(3, _), (0, _), (1, _), (2, _), (4, _), (5, _), (7, _), (8, _)]) hc dL_isLearned_104 rfl (by decide) rfl ?_
  refine r_iload (pc := 105) hc 7 dL_isLearned_105 rfl ?_
  refine r_bipush (pc := 107) (v := 81) hc dL_isLearned_107 (by decide) ?_
  refine r_icmp_le (pc := 109) (tgt := 153) hc dL_isLearned_109 (by decide) (fun c109 => ?_) (fun c109 => ?_)
  · have hok := hok.1 c109
    have hq := o_qp hq c109
    refine r_iconst (pc := 153) (v := 0) hc dL_isLearned_153 rfl ?_
    refine r_istore (pc := 154) (lv' := [(6, _), (3, _), (0, _), (1, _), (2, _), (4, _), (5, _), (7, _), (8, _)]) hc dL_isLearned_154 (by decide) rfl ?_
    refine r_iinc (pc := 156) (q := 7) (v := _ + 1) (lv' := [(7, _), (6, _), (3, _), (0, _), (1, _), (2, _), (4, _), (5, _), (8, _)]) hc dL_isLearned_156 rfl rfl (by decide) rfl ?_
    refine r_goto (pc := 159) (tgt := 67) hc dL_isLearned_159 (by decide) ?_
    exact o_V.sub (hK _ _ _ _ _ _ _ hok hq) [3, 4, 5, 2, 6, 7, 1, 0] rfl
  · have hok := hok.2 c109
    have hq := o_qn hq c109
    refine r_iload (pc := 112) hc 7 dL_isLearned_112 rfl ?_
    refine r_bipush (pc := 114) (v := 119) hc dL_isLearned_114 (by decide) ?_
    refine r_icmp_ge (pc := 116) (tgt := 153) hc dL_isLearned_116 (by decide) (fun c116 => ?_) (fun c116 => ?_)
    · have hok := hok.1 c116
      have hq := o_qp hq c116
      refine r_iconst (pc := 153) (v := 0) hc dL_isLearned_153 rfl ?_
      refine r_istore (pc := 154) (lv' := [(6, _), (3, _), (0, _), (1, _), (2, _), (4, _), (5, _), (7, _), (8, _)]) hc dL_isLearned_154 (by decide) rfl ?_
      refine r_iinc (pc := 156) (q := 7) (v := _ + 1) (lv' := [(7, _), (6, _), (3, _), (0, _), (1, _), (2, _), (4, _), (5, _), (8, _)]) hc dL_isLearned_156 rfl rfl (by decide) rfl ?_
      refine r_goto (pc := 159) (tgt := 67) hc dL_isLearned_159 (by decide) ?_
      exact o_V.sub (hK _ _ _ _ _ _ _ hok hq) [3, 4, 5, 2, 6, 7, 1, 0] rfl
    · have hok := hok.2 c116
      have hq := o_qn hq c116
      refine r_aload_n (pc := 119) hc 1 dL_isLearned_119 rfl rfl ?_
      refine r_iload (pc := 120) hc 6 dL_isLearned_120 rfl ?_
      obtain ⟨hs1, hok⟩ := hok
      refine r_callV_i (pc := 122) (as := [.int _]) hc (c_X5_reading l _ hs1) kk5 (o_lt hc (by decide)) rfl mV_X5_reading kM_L_30 ⟨Nat.le_of_ble_eq_true rfl, Nat.le_of_ble_eq_true rfl⟩ ⟨Nat.le_of_ble_eq_true rfl, Nat.le_of_ble_eq_true rfl⟩ rfl rfl (Nat.le_of_ble_eq_true rfl) dL_isLearned_122 (fun r σ' h => ?_)
      obtain ⟨rfl, rfl⟩ := h
      refine r_iload (pc := 125) hc 7 dL_isLearned_125 rfl ?_
      refine r_isub (pc := 127) hc dL_isLearned_127 ?_
      refine r_bipush (pc := 128) (v := 100) hc dL_isLearned_128 (by decide) ?_
      refine r_iadd (pc := 130) hc dL_isLearned_130 ?_
      refine r_iload (pc := 131) hc 6 dL_isLearned_131 rfl ?_
      obtain ⟨hs2, hok⟩ := hok
      refine r_callS_i (pc := 133) (as := [.int _]) hc (c_L_period l _ hs2) mS_L_period kM_L_98 ⟨Nat.le_of_ble_eq_true rfl, Nat.le_of_ble_eq_true rfl⟩ ⟨Nat.le_of_ble_eq_true rfl, Nat.le_of_ble_eq_true rfl⟩ rfl rfl (Nat.le_of_ble_eq_true rfl) dL_isLearned_133 (fun r σ' h => ?_)
      obtain ⟨rfl, rfl⟩ := h
      obtain ⟨hs3, hok⟩ := hok
      refine r_callS_i (pc := 136) (as := [.int _, .int _]) hc (c_L_rest l _ hs3) mS_L_rest kM_L_9 ⟨Nat.le_of_ble_eq_true rfl, Nat.le_of_ble_eq_true rfl⟩ ⟨Nat.le_of_ble_eq_true rfl, Nat.le_of_ble_eq_true rfl⟩ rfl rfl (Nat.le_of_ble_eq_true rfl) dL_isLearned_136 (fun r σ' h => ?_)
      obtain ⟨rfl, rfl⟩ := h
      refine r_iload_n (pc := 139) hc 2 dL_isLearned_139 rfl rfl ?_
      refine r_iload (pc := 140) hc 6 dL_isLearned_140 rfl ?_
      obtain ⟨hs5, hok⟩ := hok
      refine r_callS_i (pc := 142) (as := [.int _]) hc (c_L_period l _ hs5) mS_L_period kM_L_98 ⟨Nat.le_of_ble_eq_true rfl, Nat.le_of_ble_eq_true rfl⟩ ⟨Nat.le_of_ble_eq_true rfl, Nat.le_of_ble_eq_true rfl⟩ rfl rfl (Nat.le_of_ble_eq_true rfl) dL_isLearned_142 (fun r σ' h => ?_)
      obtain ⟨rfl, rfl⟩ := h
      obtain ⟨hs6, hok⟩ := hok
      refine r_irem (pc := 145) hc dL_isLearned_145 hs6 ?_
      refine r_icmp_ne (pc := 146) (tgt := 153) hc dL_isLearned_146 (by decide) (fun c146 => ?_) (fun c146 => ?_)
      · have hok := hok.2 c146
        have hq := o_qn hq c146
        refine r_iconst (pc := 153) (v := 0) hc dL_isLearned_153 rfl ?_
        refine r_istore (pc := 154) (lv' := [(6, _), (3, _), (0, _), (1, _), (2, _), (4, _), (5, _), (7, _), (8, _)]) hc dL_isLearned_154 (by decide) rfl ?_
        refine r_iinc (pc := 156) (q := 7) (v := _ + 1) (lv' := [(7, _), (6, _), (3, _), (0, _), (1, _), (2, _), (4, _), (5, _), (8, _)]) hc dL_isLearned_156 rfl rfl (by decide) rfl ?_
        refine r_goto (pc := 159) (tgt := 67) hc dL_isLearned_159 (by decide) ?_
        exact o_V.sub (hK _ _ _ _ _ _ _ hok hq) [3, 4, 5, 2, 6, 7, 1, 0] rfl
      · have hok := hok.1 c146
        have hq := o_qp hq c146
        refine r_iconst (pc := 149) (v := 1) hc dL_isLearned_149 rfl ?_
        refine r_goto (pc := 150) (tgt := 154) hc dL_isLearned_150 (by decide) ?_
        refine r_istore (pc := 154) (lv' := [(6, _), (3, _), (0, _), (1, _), (2, _), (4, _), (5, _), (7, _), (8, _)]) hc dL_isLearned_154 (by decide) rfl ?_
        refine r_iinc (pc := 156) (q := 7) (v := _ + 1) (lv' := [(7, _), (6, _), (3, _), (0, _), (1, _), (2, _), (4, _), (5, _), (8, _)]) hc dL_isLearned_156 rfl rfl (by decide) rfl ?_
        refine r_goto (pc := 159) (tgt := 67) hc dL_isLearned_159 (by decide) ?_
        exact o_V.sub (hK _ _ _ _ _ _ _ hok hq) [3, 4, 5, 2, 6, 7, 1, 0] rfl
set_option maxHeartbeats 4000000 in
set_option maxRecDepth 100000 in
theorem t_L_isLearned_67 {p : Program} {l : Launch} {e : Env} {s : State} {m : MethodId} {args : Array Value} {below : List Frame} {meth : Method} {c : Code} {G : Gt} {post : Int32 → Sg → Prop}  (hX : 34 < gN G) (hc : o_Cx p s m args meth c G cL_isLearned yL_isLearned.cls 9) (hr : meth.sig.returnType = (some .boolean)) : ∀ (n : Nat) (x1 : Int32) (x2 : Int32) (x3 : Int32) (x5 : Int32) (x6 : Int32) (x7 : Int32) (σ : Sg) (hok : ok_L_isLearned_67  n x1 x2 x3 x5 x6 x7 σ) (hq : ∀ q : Int32 × Sg, q = f_L_isLearned_67  n x1 x2 x3 x5 x6 x7 σ → post q.1 q.2), o_V p l e { frames := 7, cells := 1, slots := 3, locals := 166 } s m args below meth c (MQ below (va_Qi post (fun σ' t => o_W G σ' t.heap) (o_A G)) args s 1 3 (o_A G)) G 1 3 9 σ 67 [(0, .ref (gAd G 0)), (1, .int x1), (2, .int x2), (3, .int x3), (4, .ref (gAd G 34)), (5, .int x5), (6, .int x6), (7, .int x7)] [] := by
  intro n
  induction n with
  | zero =>
    intro x1 x2 x3 x5 x6 x7 σ hok hq
    exact hok.elim
  | succ n ih =>
    intro x1 x2 x3 x5 x6 x7 σ hok hq
    refine r_iload (pc := 67) hc 7 dL_isLearned_67 rfl ?_
    refine r_iconst (pc := 69) (v := 3) hc dL_isLearned_69 rfl ?_
    refine r_icmp_ge (pc := 70) (tgt := 162) hc dL_isLearned_70 (by decide) (fun c70 => ?_) (fun c70 => ?_)
    · have hok := hok.1 c70
      have hq := o_qp hq c70
      exact o_V.sub (t_L_isLearned_162 hX hc hr hok hq) [0, 1, 2, 3, 5, 6] rfl
    · have hok := hok.2 c70
      have hq := o_qn hq c70
      refine r_iload (pc := 73) hc 6 dL_isLearned_73 rfl ?_
      refine r_if_eq (pc := 75) (tgt := 162) hc dL_isLearned_75 (by decide) (fun c75 => ?_) (fun c75 => ?_)
      · have hok := hok.1 c75
        have hq := o_qp hq c75
        exact o_V.sub (t_L_isLearned_162 hX hc hr hok hq) [0, 1, 2, 3, 5, 6] rfl
      · have hok := hok.2 c75
        have hq := o_qn hq c75
        refine r_aload_n (pc := 78) hc 0 dL_isLearned_78 rfl rfl ?_
        refine r_iload (pc := 79) hc 7 dL_isLearned_79 rfl ?_
        refine r_iload_n (pc := 81) hc 2 dL_isLearned_81 rfl rfl ?_
        obtain ⟨hs1, hok⟩ := hok
        refine r_callV_i (pc := 82) (as := [.int _, .int _]) hc (c_X5_correction l _ hs1) kk5 (o_lt hc (by decide)) rfl mV_X5_correction kM_L_25 ⟨Nat.le_of_ble_eq_true rfl, Nat.le_of_ble_eq_true rfl⟩ ⟨Nat.le_of_ble_eq_true rfl, Nat.le_of_ble_eq_true rfl⟩ rfl rfl (Nat.le_of_ble_eq_true rfl) dL_isLearned_82 (fun r σ' h => ?_)
        obtain ⟨rfl, rfl⟩ := h
        refine r_istore (pc := 85) (lv' := [(8, _), (0, _), (1, _), (2, _), (3, _), (4, _), (5, _), (6, _), (7, _)]) hc dL_isLearned_85 (by decide) rfl ?_
        refine r_iload_n (pc := 87) hc 4 dL_isLearned_87 rfl rfl ?_
        refine r_iload (pc := 88) hc 0 dL_isLearned_88 rfl ?_
        refine r_aload (pc := 90) hc 5 dL_isLearned_90 rfl ?_
        refine r_iload (pc := 92) hc 8 dL_isLearned_92 rfl ?_
        obtain ⟨hs2, hok⟩ := hok
        refine r_iald (pc := 94) (k := _) hc hX rfl hs2 rfl dL_isLearned_94 ?_
        refine r_icmp_ne (pc := 95) (tgt := 102) hc dL_isLearned_95 (by decide) (fun c95 => ?_) (fun c95 => ?_)
        · have hok := hok.2 c95
          have hq := o_qn hq c95
          refine r_iconst (pc := 102) (v := 1) hc dL_isLearned_102 rfl ?_
          exact o_V.sub (t_L_isLearned_103 hX hc hr (K := f_L_isLearned_67 n) (okK := ok_L_isLearned_67 n) (fun z0 z1 z2 z3 z4 z5 zs h1 h2 => ih z0 z1 z2 z3 z4 z5 zs h1 h2) hok hq) [1, 2, 3, 5, 6, 8, 0] rfl
        · have hok := hok.1 c95
          have hq := o_qp hq c95
          refine r_iconst (pc := 98) (v := 0) hc dL_isLearned_98 rfl ?_
          refine r_goto (pc := 99) (tgt := 103) hc dL_isLearned_99 (by decide) ?_
          exact o_V.sub (t_L_isLearned_103 hX hc hr (K := f_L_isLearned_67 n) (okK := ok_L_isLearned_67 n) (fun z0 z1 z2 z3 z4 z5 zs h1 h2 => ih z0 z1 z2 z3 z4 z5 zs h1 h2) hok hq) [1, 2, 3, 5, 6, 8, 0] rfl
set_option maxHeartbeats 4000000 in
set_option maxRecDepth 100000 in
theorem t_L_isLearned_22 {p : Program} {l : Launch} {e : Env} {s : State} {m : MethodId} {args : Array Value} {below : List Frame} {meth : Method} {c : Code} {G : Gt} {post : Int32 → Sg → Prop}  (hX : 34 < gN G) (hc : o_Cx p s m args meth c G cL_isLearned yL_isLearned.cls 9) (hr : meth.sig.returnType = (some .boolean)) : ∀ (n : Nat) (x1 : Int32) (x2 : Int32) (x3 : Int32) (x5 : Int32) (σ : Sg) (hok : ok_L_isLearned_22  n x1 x2 x3 x5 σ) (hq : ∀ q : Int32 × Sg, q = f_L_isLearned_22  n x1 x2 x3 x5 σ → post q.1 q.2), o_V p l e { frames := 7, cells := 1, slots := 3, locals := 166 } s m args below meth c (MQ below (va_Qi post (fun σ' t => o_W G σ' t.heap) (o_A G)) args s 1 3 (o_A G)) G 1 3 9 σ 22 [(0, .ref (gAd G 0)), (1, .int x1), (2, .int x2), (3, .int x3), (4, .ref (gAd G 34)), (5, .int x5)] [] := by
  intro n
  induction n with
  | zero =>
    intro x1 x2 x3 x5 σ hok hq
    exact hok.elim
  | succ n ih =>
    intro x1 x2 x3 x5 σ hok hq
    refine r_iload (pc := 22) hc 5 dL_isLearned_22 rfl ?_
    refine r_iconst (pc := 24) (v := 3) hc dL_isLearned_24 rfl ?_
    refine r_icmp_ge (pc := 25) (tgt := 46) hc dL_isLearned_25 (by decide) (fun c25 => ?_) (fun c25 => ?_)
    · have hok := hok.1 c25
      have hq := o_qp hq c25
      refine r_aload_n (pc := 46) hc 0 dL_isLearned_46 rfl rfl ?_
      obtain ⟨hs1, hok⟩ := hok
      refine r_callV_i (pc := 47) (as := []) hc (c_X5_learn l _ hs1) kk5 (o_lt hc (by decide)) rfl mV_X5_learn kM_L_113 ⟨Nat.le_of_ble_eq_true rfl, Nat.le_of_ble_eq_true rfl⟩ ⟨Nat.le_of_ble_eq_true rfl, Nat.le_of_ble_eq_true rfl⟩ rfl rfl (Nat.le_of_ble_eq_true rfl) dL_isLearned_47 (fun r σ' h => ?_)
      obtain ⟨rfl, rfl⟩ := h
      refine r_istore (pc := 50) (lv' := [(5, _), (0, _), (1, _), (2, _), (3, _), (4, _)]) hc dL_isLearned_50 (by decide) rfl ?_
      refine r_iload (pc := 52) hc 0 dL_isLearned_52 rfl ?_
      refine r_if_lt (pc := 54) (tgt := 61) hc dL_isLearned_54 (by decide) (fun c54 => ?_) (fun c54 => ?_)
      · have hok := hok.1 c54
        have hq := o_qp hq c54
        refine r_iconst (pc := 61) (v := 0) hc dL_isLearned_61 rfl ?_
        refine r_istore (pc := 62) (lv' := [(6, _), (5, _), (0, _), (1, _), (2, _), (3, _), (4, _)]) hc dL_isLearned_62 (by decide) rfl ?_
        refine r_iconst (pc := 64) (v := 0) hc dL_isLearned_64 rfl ?_
        refine r_istore (pc := 65) (lv' := [(7, _), (6, _), (5, _), (0, _), (1, _), (2, _), (3, _), (4, _)]) hc dL_isLearned_65 (by decide) rfl ?_
        exact o_V.sub (t_L_isLearned_67 hX hc hr oF _ _ _ _ _ _ _ hok hq) [3, 4, 5, 6, 7, 2, 1, 0] rfl
      · have hok := hok.2 c54
        have hq := o_qn hq c54
        refine r_iconst (pc := 57) (v := 1) hc dL_isLearned_57 rfl ?_
        refine r_goto (pc := 58) (tgt := 62) hc dL_isLearned_58 (by decide) ?_
        refine r_istore (pc := 62) (lv' := [(6, _), (5, _), (0, _), (1, _), (2, _), (3, _), (4, _)]) hc dL_isLearned_62 (by decide) rfl ?_
        refine r_iconst (pc := 64) (v := 0) hc dL_isLearned_64 rfl ?_
        refine r_istore (pc := 65) (lv' := [(7, _), (6, _), (5, _), (0, _), (1, _), (2, _), (3, _), (4, _)]) hc dL_isLearned_65 (by decide) rfl ?_
        exact o_V.sub (t_L_isLearned_67 hX hc hr oF _ _ _ _ _ _ _ hok hq) [3, 4, 5, 6, 7, 2, 1, 0] rfl
    · have hok := hok.2 c25
      have hq := o_qn hq c25
      refine r_aload (pc := 28) hc 4 dL_isLearned_28 rfl ?_
      refine r_iload (pc := 30) hc 5 dL_isLearned_30 rfl ?_
      refine r_aload_n (pc := 32) hc 0 dL_isLearned_32 rfl rfl ?_
      refine r_iload (pc := 33) hc 5 dL_isLearned_33 rfl ?_
      refine r_iload_n (pc := 35) hc 2 dL_isLearned_35 rfl rfl ?_
      obtain ⟨hs3, hok⟩ := hok
      refine r_callV_i (pc := 36) (as := [.int _, .int _]) hc (c_X5_correction l _ hs3) kk5 (o_lt hc (by decide)) rfl mV_X5_correction kM_L_25 ⟨Nat.le_of_ble_eq_true rfl, Nat.le_of_ble_eq_true rfl⟩ ⟨Nat.le_of_ble_eq_true rfl, Nat.le_of_ble_eq_true rfl⟩ rfl rfl (Nat.le_of_ble_eq_true rfl) dL_isLearned_36 (fun r σ' h => ?_)
      obtain ⟨rfl, rfl⟩ := h
      obtain ⟨hs4, hok⟩ := hok
      refine r_iast (pc := 39) (k := _) hc hX rfl hs4 rfl dL_isLearned_39 ?_
      refine r_iinc (pc := 40) (q := 5) (v := _ + 1) (lv' := [(5, _), (0, _), (1, _), (2, _), (3, _), (4, _)]) hc dL_isLearned_40 rfl rfl (by decide) rfl ?_
      refine r_goto (pc := 43) (tgt := 22) hc dL_isLearned_43 (by decide) ?_
      exact o_V.sub (ih _ _ _ _ _ hok hq) [1, 2, 3, 4, 5, 0] rfl
set_option maxHeartbeats 4000000 in
set_option maxRecDepth 100000 in
theorem c_L_isLearned (l : Launch) (G : Gt)  (hG : gN G = 34) {σ : Sg} (hok : ok_L_isLearned  σ) : o_Cim l G yL_isLearned cL_isLearned 9 (some .boolean) 7 166 1 3 [.ref (gAd G 0)] σ (fun r σ' => r = (f_L_isLearned  σ).1 ∧ σ' = (f_L_isLearned  σ).2) := by
  refine o_Cim.of (by decide +kernel) (Nat.le_of_ble_eq_true rfl) ?_
  intro p e s m args below meth c hc hr
  have hq : ∀ q : Int32 × Sg, q = f_L_isLearned  σ → (fun r σ' => r = (f_L_isLearned  σ).1 ∧ σ' = (f_L_isLearned  σ).2) q.1 q.2 := fun q h => ⟨congrArg Prod.fst h, congrArg Prod.snd h⟩
  refine r_aload_n (pc := 0) hc 0 dL_isLearned_0 rfl rfl ?_
  refine r_iconst (pc := 1) (v := 1) hc dL_isLearned_1 rfl ?_
  obtain ⟨hs1, hok⟩ := hok
  refine r_callV_i (pc := 2) (as := [.int _]) hc (c_X5_count l _ hs1) kk5 (o_lt hc (by decide)) rfl mV_X5_count kM_L_19 ⟨Nat.le_of_ble_eq_true rfl, Nat.le_of_ble_eq_true rfl⟩ ⟨Nat.le_of_ble_eq_true rfl, Nat.le_of_ble_eq_true rfl⟩ rfl rfl (Nat.le_of_ble_eq_true rfl) dL_isLearned_2 (fun r σ' h => ?_)
  obtain ⟨rfl, rfl⟩ := h
  refine r_istore_n (pc := 5) (lv' := [(1, _), (0, _)]) hc dL_isLearned_5 rfl (by decide) rfl ?_
  refine r_iload_n (pc := 6) hc 0 dL_isLearned_6 rfl rfl ?_
  refine r_sipush (pc := 7) (v := 510) hc dL_isLearned_7 (by decide) ?_
  refine r_idiv (pc := 10) hc dL_isLearned_10 (by decide) ?_
  refine r_istore_n (pc := 11) (lv' := [(2, _), (1, _), (0, _)]) hc dL_isLearned_11 rfl (by decide) rfl ?_
  refine r_iconst (pc := 12) (v := 0) hc dL_isLearned_12 rfl ?_
  refine r_istore_n (pc := 13) (lv' := [(3, _), (2, _), (1, _), (0, _)]) hc dL_isLearned_13 rfl (by decide) rfl ?_
  refine r_iconst (pc := 14) (v := 3) hc dL_isLearned_14 rfl ?_
  refine r_newa (pc := 15) hc hG dL_isLearned_15 ⟨Nat.le_of_ble_eq_true rfl, Nat.le_of_ble_eq_true rfl⟩ (fun G1 hc1 hX hA => ?_)
  rw [← hA 0 (by decide)]
  clear hc hG
  have hc := hc1
  clear hA hc1
  refine r_astore (pc := 17) (lv' := [(4, _), (3, _), (2, _), (1, _), (0, _)]) hc dL_isLearned_17 (by decide) rfl ?_
  refine r_iconst (pc := 19) (v := 0) hc dL_isLearned_19 rfl ?_
  refine r_istore (pc := 20) (lv' := [(5, _), (4, _), (3, _), (2, _), (1, _), (0, _)]) hc dL_isLearned_20 (by decide) rfl ?_
  exact o_V.sub (t_L_isLearned_22 hX hc hr oF _ _ _ _ _ hok hq) [5, 4, 3, 2, 1, 0] rfl
noncomputable def f_L_acts_416  (y0 : Int32) (σ : Sg) : Int32 × Sg :=
  let q2 := f_X5_forget σ
  o_ite (q2.1 = y0) (
    o_ite ((f_X5_count 6 q2.2) = (-4)) (
      o_ite ((f_X5_count 7 q2.2) = 0) (
        (1, q2.2)) (
        (0, q2.2))) (
      (0, q2.2))) (
    (0, q2.2))
def ok_L_acts_416  (y0 : Int32) (σ : Sg) : Prop :=
  (ok_X5_forget σ) ∧ (let q2 := f_X5_forget σ
  ((q2.1 = y0) →
    (ok_X5_count 6 q2.2) ∧ ((((f_X5_count 6 q2.2) = (-4)) →
      (ok_X5_count 7 q2.2) ∧ ((((f_X5_count 7 q2.2) = 0) →
        True) ∧ (¬ ((f_X5_count 7 q2.2) = 0) →
        True))) ∧ (¬ ((f_X5_count 6 q2.2) = (-4)) →
      True))) ∧ (¬ (q2.1 = y0) →
    True))
noncomputable def f_L_acts_346  (y0 : Int32) (y1 : Int32) (y2 : Int32) (σ : Sg) : Int32 × Sg :=
  o_ite (y2 = (y1 + y0)) (
    (1, σ)) (
    (0, σ))
def ok_L_acts_346  (y0 : Int32) (y1 : Int32) (y2 : Int32) (σ : Sg) : Prop :=
  ((y2 = (y1 + y0)) →
    True) ∧ (¬ (y2 = (y1 + y0)) →
    True)
noncomputable def f_L_acts_313  (x3 : Int32) (y0 : Int32) (σ : Sg) : Int32 × Sg :=
  let q2 := f_X5_set x3 y0 σ
  o_ite (q2.1 < 0) (
    (0, q2.2)) (
    o_ite (x3 = 3) (
      f_L_acts_346 100 y0 (f_X5_count (20 + x3) q2.2) q2.2) (
      f_L_acts_346 0 y0 (f_X5_count (20 + x3) q2.2) q2.2))
def ok_L_acts_313  (x3 : Int32) (y0 : Int32) (σ : Sg) : Prop :=
  (ok_X5_set x3 y0 σ) ∧ (let q2 := f_X5_set x3 y0 σ
  ((q2.1 < 0) →
    True) ∧ (¬ (q2.1 < 0) →
    (ok_X5_count (20 + x3) q2.2) ∧ (((x3 = 3) →
      ok_L_acts_346 100 y0 (f_X5_count (20 + x3) q2.2) q2.2) ∧ (¬ (x3 = 3) →
      ok_L_acts_346 0 y0 (f_X5_count (20 + x3) q2.2) q2.2))))
noncomputable def f_L_acts (p1 : Int32) (p2 : Int32) (σ : Sg) : Int32 × Sg :=
  o_ite ((f_L_low p1 14 σ) = 0) (
    let q3 := f_L_isTurned p2 σ
    (q3.1, q3.2)) (
    o_ite ((f_L_low p1 14 σ) = 1) (
      let q6 := f_L_isTurned p2 σ
      (q6.1, q6.2)) (
      o_ite ((f_L_low p1 14 σ) = 2) (
        let q9 := f_L_isTurned p2 σ
        (q9.1, q9.2)) (
        o_ite ((f_L_low p1 14 σ) = 3) (
          let q13 := f_X5_power (f_L_low p2 2 σ) σ
          o_ite (q13.1 < 0) (
            (0, q13.2)) (
            (1, q13.2))) (
          o_ite ((f_L_low p1 14 σ) = 4) (
            let q16 := f_X5_brownout (1 + (f_L_low p2 9 σ)) σ
            o_ite (q16.1 = (-1)) (
              (0, q16.2)) (
              (1, q16.2))) (
            o_ite ((f_L_low p1 14 σ) = 5) (
              let q19 := f_X5_charge (f_L_low p2 40 σ) σ
              o_ite (q19.1 < 0) (
                (0, q19.2)) (
                (1, q19.2))) (
              o_ite ((f_L_low p1 14 σ) = 6) (
                let q24 := f_X5_disk (f_L_low p2 3 σ) (f_L_low (p2 >>> (2 &&& 31)) 8 σ) ((f_L_low (p2 >>> (6 &&& 31)) 19 σ) - 9) σ
                o_ite (q24.1 ≤ 90) (
                  (0, q24.2)) (
                  o_ite (110 ≤ q24.1) (
                    (0, q24.2)) (
                    let q27 := f_X5_disk (f_L_low p2 3 σ) (f_L_low (p2 >>> (2 &&& 31)) 8 q24.2) ((f_L_low (p2 >>> (6 &&& 31)) 19 σ) - 9) q24.2
                    o_ite (q27.1 = (((f_L_low (p2 >>> (6 &&& 31)) 19 σ) - 9) + 100)) (
                      (1, q27.2)) (
                      (0, q27.2))))) (
                o_ite ((f_L_low p1 14 σ) = 7) (
                  let q32 := f_X5_disk (f_L_low p2 3 σ) (f_L_low (p2 >>> (2 &&& 31)) 8 σ) ((f_L_low (p2 >>> (6 &&& 31)) 19 σ) - 9) σ
                  o_ite (q32.1 ≤ 90) (
                    (0, q32.2)) (
                    o_ite (110 ≤ q32.1) (
                      (0, q32.2)) (
                      let q35 := f_X5_disk (f_L_low p2 3 σ) (f_L_low (p2 >>> (2 &&& 31)) 8 q32.2) ((f_L_low (p2 >>> (6 &&& 31)) 19 σ) - 9) q32.2
                      o_ite (q35.1 = (((f_L_low (p2 >>> (6 &&& 31)) 19 σ) - 9) + 100)) (
                        (1, q35.2)) (
                        (0, q35.2))))) (
                  o_ite ((f_L_low p1 14 σ) = 8) (
                    let q39 := f_X5_noise (f_L_low p2 3 σ) ((f_L_low (p2 >>> (2 &&& 31)) 7 σ) - 3) σ
                    o_ite (q39.1 ≤ 90) (
                      (0, q39.2)) (
                      (1, q39.2))) (
                    o_ite ((f_L_low p1 14 σ) = 9) (
                      o_ite ((f_L_low p2 4 σ) = 0) (
                        f_L_acts_313 (f_L_low p2 4 σ) (f_L_low (p2 >>> (2 &&& 31)) 41 σ) σ) (
                        o_ite ((f_L_low p2 4 σ) = 1) (
                          f_L_acts_313 (f_L_low p2 4 σ) (f_L_low (p2 >>> (2 &&& 31)) 33 σ) σ) (
                          o_ite ((f_L_low p2 4 σ) = 2) (
                            f_L_acts_313 (f_L_low p2 4 σ) (1 + (f_L_low (p2 >>> (2 &&& 31)) 4080 σ)) σ) (
                            f_L_acts_313 (f_L_low p2 4 σ) ((f_L_low (p2 >>> (2 &&& 31)) 9 σ) - 4) σ)))) (
                      o_ite ((f_L_low p1 14 σ) = 10) (
                        let q49 := f_X5_correct (f_L_low p2 3 σ) (f_L_low (p2 >>> (2 &&& 31)) 8 σ) ((f_L_low (p2 >>> (5 &&& 31)) 41 σ) - 20) σ
                        o_ite (q49.1 ≤ 79) (
                          (0, q49.2)) (
                          (1, q49.2))) (
                        o_ite ((f_L_low p1 14 σ) = 11) (
                          let q51 := f_L_isLearned σ
                          (q51.1, q51.2)) (
                          o_ite ((f_L_low p1 14 σ) = 12) (
                            o_ite ((f_X5_count 6 σ) = (-4)) (
                              f_L_acts_416 0 σ) (
                              f_L_acts_416 1 σ)) (
                            let q55 := f_L_isSampled σ
                            (q55.1, q55.2))))))))))))))
def ok_L_acts (p1 : Int32) (p2 : Int32) (σ : Sg) : Prop :=
  (ok_L_low p1 14 σ) ∧ ((((f_L_low p1 14 σ) = 0) →
    (ok_L_isTurned p2 σ) ∧ (let q3 := f_L_isTurned p2 σ
    (narrow .boolean (.int q3.1) = .int q3.1) ∧ (True))) ∧ (¬ ((f_L_low p1 14 σ) = 0) →
    (((f_L_low p1 14 σ) = 1) →
      (ok_L_isTurned p2 σ) ∧ (let q6 := f_L_isTurned p2 σ
      (narrow .boolean (.int q6.1) = .int q6.1) ∧ (True))) ∧ (¬ ((f_L_low p1 14 σ) = 1) →
      (((f_L_low p1 14 σ) = 2) →
        (ok_L_isTurned p2 σ) ∧ (let q9 := f_L_isTurned p2 σ
        (narrow .boolean (.int q9.1) = .int q9.1) ∧ (True))) ∧ (¬ ((f_L_low p1 14 σ) = 2) →
        (((f_L_low p1 14 σ) = 3) →
          (ok_L_low p2 2 σ) ∧ ((ok_X5_power (f_L_low p2 2 σ) σ) ∧ (let q13 := f_X5_power (f_L_low p2 2 σ) σ
          ((q13.1 < 0) →
            True) ∧ (¬ (q13.1 < 0) →
            True)))) ∧ (¬ ((f_L_low p1 14 σ) = 3) →
          (((f_L_low p1 14 σ) = 4) →
            (ok_L_low p2 9 σ) ∧ ((ok_X5_brownout (1 + (f_L_low p2 9 σ)) σ) ∧ (let q16 := f_X5_brownout (1 + (f_L_low p2 9 σ)) σ
            ((q16.1 = (-1)) →
              True) ∧ (¬ (q16.1 = (-1)) →
              True)))) ∧ (¬ ((f_L_low p1 14 σ) = 4) →
            (((f_L_low p1 14 σ) = 5) →
              (ok_L_low p2 40 σ) ∧ ((ok_X5_charge (f_L_low p2 40 σ) σ) ∧ (let q19 := f_X5_charge (f_L_low p2 40 σ) σ
              ((q19.1 < 0) →
                True) ∧ (¬ (q19.1 < 0) →
                True)))) ∧ (¬ ((f_L_low p1 14 σ) = 5) →
              (((f_L_low p1 14 σ) = 6) →
                (ok_L_low p2 3 σ) ∧ ((ok_L_low (p2 >>> (6 &&& 31)) 19 σ) ∧ ((ok_L_low (p2 >>> (2 &&& 31)) 8 σ) ∧ ((ok_X5_disk (f_L_low p2 3 σ) (f_L_low (p2 >>> (2 &&& 31)) 8 σ) ((f_L_low (p2 >>> (6 &&& 31)) 19 σ) - 9) σ) ∧ (let q24 := f_X5_disk (f_L_low p2 3 σ) (f_L_low (p2 >>> (2 &&& 31)) 8 σ) ((f_L_low (p2 >>> (6 &&& 31)) 19 σ) - 9) σ
                ((q24.1 ≤ 90) →
                  True) ∧ (¬ (q24.1 ≤ 90) →
                  ((110 ≤ q24.1) →
                    True) ∧ (¬ (110 ≤ q24.1) →
                    (ok_L_low (p2 >>> (2 &&& 31)) 8 q24.2) ∧ ((ok_X5_disk (f_L_low p2 3 σ) (f_L_low (p2 >>> (2 &&& 31)) 8 q24.2) ((f_L_low (p2 >>> (6 &&& 31)) 19 σ) - 9) q24.2) ∧ (let q27 := f_X5_disk (f_L_low p2 3 σ) (f_L_low (p2 >>> (2 &&& 31)) 8 q24.2) ((f_L_low (p2 >>> (6 &&& 31)) 19 σ) - 9) q24.2
                    ((q27.1 = (((f_L_low (p2 >>> (6 &&& 31)) 19 σ) - 9) + 100)) →
                      True) ∧ (¬ (q27.1 = (((f_L_low (p2 >>> (6 &&& 31)) 19 σ) - 9) + 100)) →
                      True)))))))))) ∧ (¬ ((f_L_low p1 14 σ) = 6) →
                (((f_L_low p1 14 σ) = 7) →
                  (ok_L_low p2 3 σ) ∧ ((ok_L_low (p2 >>> (6 &&& 31)) 19 σ) ∧ ((ok_L_low (p2 >>> (2 &&& 31)) 8 σ) ∧ ((ok_X5_disk (f_L_low p2 3 σ) (f_L_low (p2 >>> (2 &&& 31)) 8 σ) ((f_L_low (p2 >>> (6 &&& 31)) 19 σ) - 9) σ) ∧ (let q32 := f_X5_disk (f_L_low p2 3 σ) (f_L_low (p2 >>> (2 &&& 31)) 8 σ) ((f_L_low (p2 >>> (6 &&& 31)) 19 σ) - 9) σ
                  ((q32.1 ≤ 90) →
                    True) ∧ (¬ (q32.1 ≤ 90) →
                    ((110 ≤ q32.1) →
                      True) ∧ (¬ (110 ≤ q32.1) →
                      (ok_L_low (p2 >>> (2 &&& 31)) 8 q32.2) ∧ ((ok_X5_disk (f_L_low p2 3 σ) (f_L_low (p2 >>> (2 &&& 31)) 8 q32.2) ((f_L_low (p2 >>> (6 &&& 31)) 19 σ) - 9) q32.2) ∧ (let q35 := f_X5_disk (f_L_low p2 3 σ) (f_L_low (p2 >>> (2 &&& 31)) 8 q32.2) ((f_L_low (p2 >>> (6 &&& 31)) 19 σ) - 9) q32.2
                      ((q35.1 = (((f_L_low (p2 >>> (6 &&& 31)) 19 σ) - 9) + 100)) →
                        True) ∧ (¬ (q35.1 = (((f_L_low (p2 >>> (6 &&& 31)) 19 σ) - 9) + 100)) →
                        True)))))))))) ∧ (¬ ((f_L_low p1 14 σ) = 7) →
                  (((f_L_low p1 14 σ) = 8) →
                    (ok_L_low p2 3 σ) ∧ ((ok_L_low (p2 >>> (2 &&& 31)) 7 σ) ∧ ((ok_X5_noise (f_L_low p2 3 σ) ((f_L_low (p2 >>> (2 &&& 31)) 7 σ) - 3) σ) ∧ (let q39 := f_X5_noise (f_L_low p2 3 σ) ((f_L_low (p2 >>> (2 &&& 31)) 7 σ) - 3) σ
                    ((q39.1 ≤ 90) →
                      True) ∧ (¬ (q39.1 ≤ 90) →
                      True))))) ∧ (¬ ((f_L_low p1 14 σ) = 8) →
                    (((f_L_low p1 14 σ) = 9) →
                      (ok_L_low p2 4 σ) ∧ ((((f_L_low p2 4 σ) = 0) →
                        (ok_L_low (p2 >>> (2 &&& 31)) 41 σ) ∧ (ok_L_acts_313 (f_L_low p2 4 σ) (f_L_low (p2 >>> (2 &&& 31)) 41 σ) σ)) ∧ (¬ ((f_L_low p2 4 σ) = 0) →
                        (((f_L_low p2 4 σ) = 1) →
                          (ok_L_low (p2 >>> (2 &&& 31)) 33 σ) ∧ (ok_L_acts_313 (f_L_low p2 4 σ) (f_L_low (p2 >>> (2 &&& 31)) 33 σ) σ)) ∧ (¬ ((f_L_low p2 4 σ) = 1) →
                          (((f_L_low p2 4 σ) = 2) →
                            (ok_L_low (p2 >>> (2 &&& 31)) 4080 σ) ∧ (ok_L_acts_313 (f_L_low p2 4 σ) (1 + (f_L_low (p2 >>> (2 &&& 31)) 4080 σ)) σ)) ∧ (¬ ((f_L_low p2 4 σ) = 2) →
                            (ok_L_low (p2 >>> (2 &&& 31)) 9 σ) ∧ (ok_L_acts_313 (f_L_low p2 4 σ) ((f_L_low (p2 >>> (2 &&& 31)) 9 σ) - 4) σ)))))) ∧ (¬ ((f_L_low p1 14 σ) = 9) →
                      (((f_L_low p1 14 σ) = 10) →
                        (ok_L_low p2 3 σ) ∧ ((ok_L_low (p2 >>> (2 &&& 31)) 8 σ) ∧ ((ok_L_low (p2 >>> (5 &&& 31)) 41 σ) ∧ ((ok_X5_correct (f_L_low p2 3 σ) (f_L_low (p2 >>> (2 &&& 31)) 8 σ) ((f_L_low (p2 >>> (5 &&& 31)) 41 σ) - 20) σ) ∧ (let q49 := f_X5_correct (f_L_low p2 3 σ) (f_L_low (p2 >>> (2 &&& 31)) 8 σ) ((f_L_low (p2 >>> (5 &&& 31)) 41 σ) - 20) σ
                        ((q49.1 ≤ 79) →
                          True) ∧ (¬ (q49.1 ≤ 79) →
                          True)))))) ∧ (¬ ((f_L_low p1 14 σ) = 10) →
                        (((f_L_low p1 14 σ) = 11) →
                          (ok_L_isLearned σ) ∧ (let q51 := f_L_isLearned σ
                          (narrow .boolean (.int q51.1) = .int q51.1) ∧ (True))) ∧ (¬ ((f_L_low p1 14 σ) = 11) →
                          (((f_L_low p1 14 σ) = 12) →
                            (ok_X5_count 6 σ) ∧ ((((f_X5_count 6 σ) = (-4)) →
                              ok_L_acts_416 0 σ) ∧ (¬ ((f_X5_count 6 σ) = (-4)) →
                              ok_L_acts_416 1 σ))) ∧ (¬ ((f_L_low p1 14 σ) = 12) →
                            (ok_L_isSampled σ) ∧ (let q55 := f_L_isSampled σ
                            (narrow .boolean (.int q55.1) = .int q55.1) ∧ (True))))))))))))))))
set_option maxHeartbeats 4000000 in
set_option maxRecDepth 100000 in
theorem t_L_acts_416 {p : Program} {l : Launch} {e : Env} {s : State} {m : MethodId} {args : Array Value} {below : List Frame} {meth : Method} {c : Code} {G : Gt} {post : Int32 → Sg → Prop}  (hG : gN G = 34) (hc : o_Cx p s m args meth c G cL_acts yL_acts.cls 6) (hr : meth.sig.returnType = (some .boolean)) {y0 : Int32} {σ : Sg} (hok : ok_L_acts_416  y0 σ) (hq : ∀ q : Int32 × Sg, q = f_L_acts_416  y0 σ → post q.1 q.2) : o_V p l e { frames := 8, cells := 1, slots := 3, locals := 198 } s m args below meth c (MQ below (va_Qi post (fun σ' t => o_W G σ' t.heap) (o_A G)) args s 1 3 (o_A G)) G 0 0 6 σ 416 [(0, .ref (gAd G 0))] [.int y0] := by
  refine r_istore_n (pc := 416) (lv' := [(3, _), (0, _)]) hc dL_acts_416 rfl (by decide) rfl ?_
  refine r_aload_n (pc := 417) hc 1 dL_acts_417 rfl rfl ?_
  obtain ⟨hs1, hok⟩ := hok
  refine r_callV_i (pc := 418) (as := []) hc (c_X5_forget l _ hs1) kk5 (o_lt hc (by decide)) rfl mV_X5_forget kM_L_124 ⟨Nat.le_of_ble_eq_true rfl, Nat.le_of_ble_eq_true rfl⟩ ⟨Nat.le_of_ble_eq_true rfl, Nat.le_of_ble_eq_true rfl⟩ rfl rfl (Nat.le_of_ble_eq_true rfl) dL_acts_418 (fun r σ' h => ?_)
  obtain ⟨rfl, rfl⟩ := h
  refine r_iload_n (pc := 421) hc 0 dL_acts_421 rfl rfl ?_
  refine r_icmp_ne (pc := 422) (tgt := 449) hc dL_acts_422 (by decide) (fun c422 => ?_) (fun c422 => ?_)
  · have hok := hok.2 c422
    have hq := o_qn hq c422
    refine r_iconst (pc := 449) (v := 0) hc dL_acts_449 rfl ?_
    refine o_V.widen (k := 1) (n := 3) (Nat.le_of_ble_eq_true rfl) (Nat.le_of_ble_eq_true rfl) ?_
    exact r_iret hc hr rfl dL_acts_450 (hq (_, _) rfl)
  · have hok := hok.1 c422
    have hq := o_qp hq c422
    refine r_aload_n (pc := 425) hc 1 dL_acts_425 rfl rfl ?_
    refine r_bipush (pc := 426) (v := 6) hc dL_acts_426 (by decide) ?_
    obtain ⟨hs3, hok⟩ := hok
    refine r_callV_i (pc := 428) (as := [.int _]) hc (c_X5_count l _ hs3) kk5 (o_lt hc (by decide)) rfl mV_X5_count kM_L_19 ⟨Nat.le_of_ble_eq_true rfl, Nat.le_of_ble_eq_true rfl⟩ ⟨Nat.le_of_ble_eq_true rfl, Nat.le_of_ble_eq_true rfl⟩ rfl rfl (Nat.le_of_ble_eq_true rfl) dL_acts_428 (fun r σ' h => ?_)
    obtain ⟨rfl, rfl⟩ := h
    refine r_bipush (pc := 431) (v := (-4)) hc dL_acts_431 (by decide) ?_
    refine r_icmp_ne (pc := 433) (tgt := 449) hc dL_acts_433 (by decide) (fun c433 => ?_) (fun c433 => ?_)
    · have hok := hok.2 c433
      have hq := o_qn hq c433
      refine r_iconst (pc := 449) (v := 0) hc dL_acts_449 rfl ?_
      refine o_V.widen (k := 1) (n := 3) (Nat.le_of_ble_eq_true rfl) (Nat.le_of_ble_eq_true rfl) ?_
      exact r_iret hc hr rfl dL_acts_450 (hq (_, _) rfl)
    · have hok := hok.1 c433
      have hq := o_qp hq c433
      refine r_aload_n (pc := 436) hc 1 dL_acts_436 rfl rfl ?_
      refine r_bipush (pc := 437) (v := 7) hc dL_acts_437 (by decide) ?_
      obtain ⟨hs4, hok⟩ := hok
      refine r_callV_i (pc := 439) (as := [.int _]) hc (c_X5_count l _ hs4) kk5 (o_lt hc (by decide)) rfl mV_X5_count kM_L_19 ⟨Nat.le_of_ble_eq_true rfl, Nat.le_of_ble_eq_true rfl⟩ ⟨Nat.le_of_ble_eq_true rfl, Nat.le_of_ble_eq_true rfl⟩ rfl rfl (Nat.le_of_ble_eq_true rfl) dL_acts_439 (fun r σ' h => ?_)
      obtain ⟨rfl, rfl⟩ := h
      refine r_if_ne (pc := 442) (tgt := 449) hc dL_acts_442 (by decide) (fun c442 => ?_) (fun c442 => ?_)
      · have hok := hok.2 c442
        have hq := o_qn hq c442
        refine r_iconst (pc := 449) (v := 0) hc dL_acts_449 rfl ?_
        refine o_V.widen (k := 1) (n := 3) (Nat.le_of_ble_eq_true rfl) (Nat.le_of_ble_eq_true rfl) ?_
        exact r_iret hc hr rfl dL_acts_450 (hq (_, _) rfl)
      · have hok := hok.1 c442
        have hq := o_qp hq c442
        refine r_iconst (pc := 445) (v := 1) hc dL_acts_445 rfl ?_
        refine r_goto (pc := 446) (tgt := 450) hc dL_acts_446 (by decide) ?_
        refine o_V.widen (k := 1) (n := 3) (Nat.le_of_ble_eq_true rfl) (Nat.le_of_ble_eq_true rfl) ?_
        exact r_iret hc hr rfl dL_acts_450 (hq (_, _) rfl)
set_option maxHeartbeats 4000000 in
set_option maxRecDepth 100000 in
theorem t_L_acts_346 {p : Program} {l : Launch} {e : Env} {s : State} {m : MethodId} {args : Array Value} {below : List Frame} {meth : Method} {c : Code} {G : Gt} {post : Int32 → Sg → Prop}  (hG : gN G = 34) (hc : o_Cx p s m args meth c G cL_acts yL_acts.cls 6) (hr : meth.sig.returnType = (some .boolean)) {y0 : Int32} {y1 : Int32} {y2 : Int32} {σ : Sg} (hok : ok_L_acts_346  y0 y1 y2 σ) (hq : ∀ q : Int32 × Sg, q = f_L_acts_346  y0 y1 y2 σ → post q.1 q.2) : o_V p l e { frames := 8, cells := 1, slots := 3, locals := 198 } s m args below meth c (MQ below (va_Qi post (fun σ' t => o_W G σ' t.heap) (o_A G)) args s 1 3 (o_A G)) G 0 0 6 σ 346 [] [.int y0, .int y1, .int y2] := by
  refine r_iadd (pc := 346) hc dL_acts_346 ?_
  refine r_icmp_ne (pc := 347) (tgt := 354) hc dL_acts_347 (by decide) (fun c347 => ?_) (fun c347 => ?_)
  · have hok := hok.2 c347
    have hq := o_qn hq c347
    refine r_iconst (pc := 354) (v := 0) hc dL_acts_354 rfl ?_
    refine o_V.widen (k := 1) (n := 3) (Nat.le_of_ble_eq_true rfl) (Nat.le_of_ble_eq_true rfl) ?_
    exact r_iret hc hr rfl dL_acts_355 (hq (_, _) rfl)
  · have hok := hok.1 c347
    have hq := o_qp hq c347
    refine r_iconst (pc := 350) (v := 1) hc dL_acts_350 rfl ?_
    refine r_goto (pc := 351) (tgt := 355) hc dL_acts_351 (by decide) ?_
    refine o_V.widen (k := 1) (n := 3) (Nat.le_of_ble_eq_true rfl) (Nat.le_of_ble_eq_true rfl) ?_
    exact r_iret hc hr rfl dL_acts_355 (hq (_, _) rfl)
set_option maxHeartbeats 4000000 in
set_option maxRecDepth 100000 in
theorem t_L_acts_313 {p : Program} {l : Launch} {e : Env} {s : State} {m : MethodId} {args : Array Value} {below : List Frame} {meth : Method} {c : Code} {G : Gt} {post : Int32 → Sg → Prop}  (hG : gN G = 34) (hc : o_Cx p s m args meth c G cL_acts yL_acts.cls 6) (hr : meth.sig.returnType = (some .boolean)) {x3 : Int32} {y0 : Int32} {σ : Sg} (hok : ok_L_acts_313  x3 y0 σ) (hq : ∀ q : Int32 × Sg, q = f_L_acts_313  x3 y0 σ → post q.1 q.2) : o_V p l e { frames := 8, cells := 1, slots := 3, locals := 198 } s m args below meth c (MQ below (va_Qi post (fun σ' t => o_W G σ' t.heap) (o_A G)) args s 1 3 (o_A G)) G 0 0 6 σ 313 [(0, .ref (gAd G 0)), (3, .int x3)] [.int y0] := by
  refine r_istore (pc := 313) (lv' := [(4, _), (0, _), (3, _)]) hc dL_acts_313 (by decide) rfl ?_
  refine r_aload_n (pc := 315) hc 1 dL_acts_315 rfl rfl ?_
  refine r_iload_n (pc := 316) hc 2 dL_acts_316 rfl rfl ?_
  refine r_iload (pc := 317) hc 0 dL_acts_317 rfl ?_
  obtain ⟨hs1, hok⟩ := hok
  refine r_callV_i (pc := 319) (as := [.int _, .int _]) hc (c_X5_set l _ hs1) kk5 (o_lt hc (by decide)) rfl mV_X5_set kM_L_60 ⟨Nat.le_of_ble_eq_true rfl, Nat.le_of_ble_eq_true rfl⟩ ⟨Nat.le_of_ble_eq_true rfl, Nat.le_of_ble_eq_true rfl⟩ rfl rfl (Nat.le_of_ble_eq_true rfl) dL_acts_319 (fun r σ' h => ?_)
  obtain ⟨rfl, rfl⟩ := h
  refine r_if_lt (pc := 322) (tgt := 354) hc dL_acts_322 (by decide) (fun c322 => ?_) (fun c322 => ?_)
  · have hok := hok.1 c322
    have hq := o_qp hq c322
    refine r_iconst (pc := 354) (v := 0) hc dL_acts_354 rfl ?_
    refine o_V.widen (k := 1) (n := 3) (Nat.le_of_ble_eq_true rfl) (Nat.le_of_ble_eq_true rfl) ?_
    exact r_iret hc hr rfl dL_acts_355 (hq (_, _) rfl)
  · have hok := hok.2 c322
    have hq := o_qn hq c322
    refine r_aload_n (pc := 325) hc 1 dL_acts_325 rfl rfl ?_
    refine r_bipush (pc := 326) (v := 20) hc dL_acts_326 (by decide) ?_
    refine r_iload_n (pc := 328) hc 2 dL_acts_328 rfl rfl ?_
    refine r_iadd (pc := 329) hc dL_acts_329 ?_
    obtain ⟨hs3, hok⟩ := hok
    refine r_callV_i (pc := 330) (as := [.int _]) hc (c_X5_count l _ hs3) kk5 (o_lt hc (by decide)) rfl mV_X5_count kM_L_19 ⟨Nat.le_of_ble_eq_true rfl, Nat.le_of_ble_eq_true rfl⟩ ⟨Nat.le_of_ble_eq_true rfl, Nat.le_of_ble_eq_true rfl⟩ rfl rfl (Nat.le_of_ble_eq_true rfl) dL_acts_330 (fun r σ' h => ?_)
    obtain ⟨rfl, rfl⟩ := h
    refine r_iload (pc := 333) hc 0 dL_acts_333 rfl ?_
    refine r_iload_n (pc := 335) hc 2 dL_acts_335 rfl rfl ?_
    refine r_iconst (pc := 336) (v := 3) hc dL_acts_336 rfl ?_
    refine r_icmp_ne (pc := 337) (tgt := 345) hc dL_acts_337 (by decide) (fun c337 => ?_) (fun c337 => ?_)
    · have hok := hok.2 c337
      have hq := o_qn hq c337
      refine r_iconst (pc := 345) (v := 0) hc dL_acts_345 rfl ?_
      exact o_V.sub (t_L_acts_346 hG hc hr hok hq) [] rfl
    · have hok := hok.1 c337
      have hq := o_qp hq c337
      refine r_bipush (pc := 340) (v := 100) hc dL_acts_340 (by decide) ?_
      refine r_goto (pc := 342) (tgt := 346) hc dL_acts_342 (by decide) ?_
      exact o_V.sub (t_L_acts_346 hG hc hr hok hq) [] rfl
set_option maxHeartbeats 4000000 in
set_option maxRecDepth 100000 in
theorem c_L_acts (l : Launch) (G : Gt) {p1 : Int32} {p2 : Int32} (hG : gN G = 34) {σ : Sg} (hok : ok_L_acts p1 p2 σ) : o_Cim l G yL_acts cL_acts 6 (some .boolean) 8 198 1 3 [.ref (gAd G 0), .int p1, .int p2] σ (fun r σ' => r = (f_L_acts p1 p2 σ).1 ∧ σ' = (f_L_acts p1 p2 σ).2) := by
  refine o_Cim.of (by decide +kernel) (Nat.le_of_ble_eq_true rfl) ?_
  intro p e s m args below meth c hc hr
  have hq : ∀ q : Int32 × Sg, q = f_L_acts p1 p2 σ → (fun r σ' => r = (f_L_acts p1 p2 σ).1 ∧ σ' = (f_L_acts p1 p2 σ).2) q.1 q.2 := fun q h => ⟨congrArg Prod.fst h, congrArg Prod.snd h⟩
  refine r_iload_n (pc := 0) hc 1 dL_acts_0 rfl rfl ?_
  refine r_bipush (pc := 1) (v := 14) hc dL_acts_1 (by decide) ?_
  obtain ⟨hs1, hok⟩ := hok
  refine r_callS_i (pc := 3) (as := [.int _, .int _]) hc (c_L_low l _ hs1) mS_L_low kM_L_106 ⟨Nat.le_of_ble_eq_true rfl, Nat.le_of_ble_eq_true rfl⟩ ⟨Nat.le_of_ble_eq_true rfl, Nat.le_of_ble_eq_true rfl⟩ rfl rfl (Nat.le_of_ble_eq_true rfl) dL_acts_3 (fun r σ' h => ?_)
  obtain ⟨rfl, rfl⟩ := h
  refine o_cs ((f_L_low p1 14 σ) = 0) (fun s6_0 => ?_) (fun s6_0 => ?_)
  · have hok := hok.1 s6_0
    have hq := o_qp hq s6_0
    refine r_tabIn (pc := 6) (tgt := 72) (k := 0) (off := 66) hc dL_acts_6 s6_0 (by decide) (by decide) (by decide) (by decide) ?_
    refine r_aload_n (pc := 72) hc 0 dL_acts_72 rfl rfl ?_
    refine r_iload_n (pc := 73) hc 2 dL_acts_73 rfl rfl ?_
    obtain ⟨hs2, hok⟩ := hok
    refine r_callS_i (pc := 74) (as := [.ref (gAd G _), .int _]) hc (c_L_isTurned l _ hs2) mS_L_isTurned kM_L_116 ⟨Nat.le_of_ble_eq_true rfl, Nat.le_of_ble_eq_true rfl⟩ ⟨Nat.le_of_ble_eq_true rfl, Nat.le_of_ble_eq_true rfl⟩ rfl rfl (Nat.le_of_ble_eq_true rfl) dL_acts_74 (fun r σ' h => ?_)
    obtain ⟨rfl, rfl⟩ := h
    obtain ⟨hs4, hok⟩ := hok
    refine o_V.widen (k := 1) (n := 3) (Nat.le_of_ble_eq_true rfl) (Nat.le_of_ble_eq_true rfl) ?_
    exact r_iret hc hr hs4 dL_acts_77 (hq (_, _) rfl)
  have hok := hok.2 s6_0
  have hq := o_qn hq s6_0
  refine o_cs ((f_L_low p1 14 σ) = 1) (fun s6_1 => ?_) (fun s6_1 => ?_)
  · have hok := hok.1 s6_1
    have hq := o_qp hq s6_1
    refine r_tabIn (pc := 6) (tgt := 72) (k := 1) (off := 66) hc dL_acts_6 s6_1 (by decide) (by decide) (by decide) (by decide) ?_
    refine r_aload_n (pc := 72) hc 0 dL_acts_72 rfl rfl ?_
    refine r_iload_n (pc := 73) hc 2 dL_acts_73 rfl rfl ?_
    obtain ⟨hs5, hok⟩ := hok
    refine r_callS_i (pc := 74) (as := [.ref (gAd G _), .int _]) hc (c_L_isTurned l _ hs5) mS_L_isTurned kM_L_116 ⟨Nat.le_of_ble_eq_true rfl, Nat.le_of_ble_eq_true rfl⟩ ⟨Nat.le_of_ble_eq_true rfl, Nat.le_of_ble_eq_true rfl⟩ rfl rfl (Nat.le_of_ble_eq_true rfl) dL_acts_74 (fun r σ' h => ?_)
    obtain ⟨rfl, rfl⟩ := h
    obtain ⟨hs7, hok⟩ := hok
    refine o_V.widen (k := 1) (n := 3) (Nat.le_of_ble_eq_true rfl) (Nat.le_of_ble_eq_true rfl) ?_
    exact r_iret hc hr hs7 dL_acts_77 (hq (_, _) rfl)
  have hok := hok.2 s6_1
  have hq := o_qn hq s6_1
  refine o_cs ((f_L_low p1 14 σ) = 2) (fun s6_2 => ?_) (fun s6_2 => ?_)
  · have hok := hok.1 s6_2
    have hq := o_qp hq s6_2
    refine r_tabIn (pc := 6) (tgt := 72) (k := 2) (off := 66) hc dL_acts_6 s6_2 (by decide) (by decide) (by decide) (by decide) ?_
    refine r_aload_n (pc := 72) hc 0 dL_acts_72 rfl rfl ?_
    refine r_iload_n (pc := 73) hc 2 dL_acts_73 rfl rfl ?_
    obtain ⟨hs8, hok⟩ := hok
    refine r_callS_i (pc := 74) (as := [.ref (gAd G _), .int _]) hc (c_L_isTurned l _ hs8) mS_L_isTurned kM_L_116 ⟨Nat.le_of_ble_eq_true rfl, Nat.le_of_ble_eq_true rfl⟩ ⟨Nat.le_of_ble_eq_true rfl, Nat.le_of_ble_eq_true rfl⟩ rfl rfl (Nat.le_of_ble_eq_true rfl) dL_acts_74 (fun r σ' h => ?_)
    obtain ⟨rfl, rfl⟩ := h
    obtain ⟨hs10, hok⟩ := hok
    refine o_V.widen (k := 1) (n := 3) (Nat.le_of_ble_eq_true rfl) (Nat.le_of_ble_eq_true rfl) ?_
    exact r_iret hc hr hs10 dL_acts_77 (hq (_, _) rfl)
  have hok := hok.2 s6_2
  have hq := o_qn hq s6_2
  refine o_cs ((f_L_low p1 14 σ) = 3) (fun s6_3 => ?_) (fun s6_3 => ?_)
  · have hok := hok.1 s6_3
    have hq := o_qp hq s6_3
    refine r_tabIn (pc := 6) (tgt := 78) (k := 3) (off := 72) hc dL_acts_6 s6_3 (by decide) (by decide) (by decide) (by decide) ?_
    refine r_aload_n (pc := 78) hc 0 dL_acts_78 rfl rfl ?_
    refine r_iload_n (pc := 79) hc 2 dL_acts_79 rfl rfl ?_
    refine r_iconst (pc := 80) (v := 2) hc dL_acts_80 rfl ?_
    obtain ⟨hs11, hok⟩ := hok
    refine r_callS_i (pc := 81) (as := [.int _, .int _]) hc (c_L_low l _ hs11) mS_L_low kM_L_106 ⟨Nat.le_of_ble_eq_true rfl, Nat.le_of_ble_eq_true rfl⟩ ⟨Nat.le_of_ble_eq_true rfl, Nat.le_of_ble_eq_true rfl⟩ rfl rfl (Nat.le_of_ble_eq_true rfl) dL_acts_81 (fun r σ' h => ?_)
    obtain ⟨rfl, rfl⟩ := h
    obtain ⟨hs12, hok⟩ := hok
    refine r_callV_i (pc := 84) (as := [.int _]) hc (c_X5_power l _ hs12) kk5 (o_lt hc (by decide)) rfl mV_X5_power kM_L_44 ⟨Nat.le_of_ble_eq_true rfl, Nat.le_of_ble_eq_true rfl⟩ ⟨Nat.le_of_ble_eq_true rfl, Nat.le_of_ble_eq_true rfl⟩ rfl rfl (Nat.le_of_ble_eq_true rfl) dL_acts_84 (fun r σ' h => ?_)
    obtain ⟨rfl, rfl⟩ := h
    refine r_if_lt (pc := 87) (tgt := 94) hc dL_acts_87 (by decide) (fun c87 => ?_) (fun c87 => ?_)
    · have hok := hok.1 c87
      have hq := o_qp hq c87
      refine r_iconst (pc := 94) (v := 0) hc dL_acts_94 rfl ?_
      refine o_V.widen (k := 1) (n := 3) (Nat.le_of_ble_eq_true rfl) (Nat.le_of_ble_eq_true rfl) ?_
      exact r_iret hc hr rfl dL_acts_95 (hq (_, _) rfl)
    · have hok := hok.2 c87
      have hq := o_qn hq c87
      refine r_iconst (pc := 90) (v := 1) hc dL_acts_90 rfl ?_
      refine r_goto (pc := 91) (tgt := 95) hc dL_acts_91 (by decide) ?_
      refine o_V.widen (k := 1) (n := 3) (Nat.le_of_ble_eq_true rfl) (Nat.le_of_ble_eq_true rfl) ?_
      exact r_iret hc hr rfl dL_acts_95 (hq (_, _) rfl)
  have hok := hok.2 s6_3
  have hq := o_qn hq s6_3
  refine o_cs ((f_L_low p1 14 σ) = 4) (fun s6_4 => ?_) (fun s6_4 => ?_)
  · have hok := hok.1 s6_4
    have hq := o_qp hq s6_4
    refine r_tabIn (pc := 6) (tgt := 96) (k := 4) (off := 90) hc dL_acts_6 s6_4 (by decide) (by decide) (by decide) (by decide) ?_
    refine r_aload_n (pc := 96) hc 0 dL_acts_96 rfl rfl ?_
    refine r_iconst (pc := 97) (v := 1) hc dL_acts_97 rfl ?_
    refine r_iload_n (pc := 98) hc 2 dL_acts_98 rfl rfl ?_
    refine r_bipush (pc := 99) (v := 9) hc dL_acts_99 (by decide) ?_
    obtain ⟨hs14, hok⟩ := hok
    refine r_callS_i (pc := 101) (as := [.int _, .int _]) hc (c_L_low l _ hs14) mS_L_low kM_L_106 ⟨Nat.le_of_ble_eq_true rfl, Nat.le_of_ble_eq_true rfl⟩ ⟨Nat.le_of_ble_eq_true rfl, Nat.le_of_ble_eq_true rfl⟩ rfl rfl (Nat.le_of_ble_eq_true rfl) dL_acts_101 (fun r σ' h => ?_)
    obtain ⟨rfl, rfl⟩ := h
    refine r_iadd (pc := 104) hc dL_acts_104 ?_
    obtain ⟨hs15, hok⟩ := hok
    refine r_callV_i (pc := 105) (as := [.int _]) hc (c_X5_brownout l _ hs15) kk5 (o_lt hc (by decide)) rfl mV_X5_brownout kM_L_47 ⟨Nat.le_of_ble_eq_true rfl, Nat.le_of_ble_eq_true rfl⟩ ⟨Nat.le_of_ble_eq_true rfl, Nat.le_of_ble_eq_true rfl⟩ rfl rfl (Nat.le_of_ble_eq_true rfl) dL_acts_105 (fun r σ' h => ?_)
    obtain ⟨rfl, rfl⟩ := h
    refine r_iconst (pc := 108) (v := (-1)) hc dL_acts_108 rfl ?_
    refine r_icmp_eq (pc := 109) (tgt := 116) hc dL_acts_109 (by decide) (fun c109 => ?_) (fun c109 => ?_)
    · have hok := hok.1 c109
      have hq := o_qp hq c109
      refine r_iconst (pc := 116) (v := 0) hc dL_acts_116 rfl ?_
      refine o_V.widen (k := 1) (n := 3) (Nat.le_of_ble_eq_true rfl) (Nat.le_of_ble_eq_true rfl) ?_
      exact r_iret hc hr rfl dL_acts_117 (hq (_, _) rfl)
    · have hok := hok.2 c109
      have hq := o_qn hq c109
      refine r_iconst (pc := 112) (v := 1) hc dL_acts_112 rfl ?_
      refine r_goto (pc := 113) (tgt := 117) hc dL_acts_113 (by decide) ?_
      refine o_V.widen (k := 1) (n := 3) (Nat.le_of_ble_eq_true rfl) (Nat.le_of_ble_eq_true rfl) ?_
      exact r_iret hc hr rfl dL_acts_117 (hq (_, _) rfl)
  have hok := hok.2 s6_4
  have hq := o_qn hq s6_4
  refine o_cs ((f_L_low p1 14 σ) = 5) (fun s6_5 => ?_) (fun s6_5 => ?_)
  · have hok := hok.1 s6_5
    have hq := o_qp hq s6_5
    refine r_tabIn (pc := 6) (tgt := 118) (k := 5) (off := 112) hc dL_acts_6 s6_5 (by decide) (by decide) (by decide) (by decide) ?_
    refine r_aload_n (pc := 118) hc 0 dL_acts_118 rfl rfl ?_
    refine r_iload_n (pc := 119) hc 2 dL_acts_119 rfl rfl ?_
    refine r_bipush (pc := 120) (v := 40) hc dL_acts_120 (by decide) ?_
    obtain ⟨hs17, hok⟩ := hok
    refine r_callS_i (pc := 122) (as := [.int _, .int _]) hc (c_L_low l _ hs17) mS_L_low kM_L_106 ⟨Nat.le_of_ble_eq_true rfl, Nat.le_of_ble_eq_true rfl⟩ ⟨Nat.le_of_ble_eq_true rfl, Nat.le_of_ble_eq_true rfl⟩ rfl rfl (Nat.le_of_ble_eq_true rfl) dL_acts_122 (fun r σ' h => ?_)
    obtain ⟨rfl, rfl⟩ := h
    obtain ⟨hs18, hok⟩ := hok
    refine r_callV_i (pc := 125) (as := [.int _]) hc (c_X5_charge l _ hs18) kk5 (o_lt hc (by decide)) rfl mV_X5_charge kM_L_50 ⟨Nat.le_of_ble_eq_true rfl, Nat.le_of_ble_eq_true rfl⟩ ⟨Nat.le_of_ble_eq_true rfl, Nat.le_of_ble_eq_true rfl⟩ rfl rfl (Nat.le_of_ble_eq_true rfl) dL_acts_125 (fun r σ' h => ?_)
    obtain ⟨rfl, rfl⟩ := h
    refine r_if_lt (pc := 128) (tgt := 135) hc dL_acts_128 (by decide) (fun c128 => ?_) (fun c128 => ?_)
    · have hok := hok.1 c128
      have hq := o_qp hq c128
      refine r_iconst (pc := 135) (v := 0) hc dL_acts_135 rfl ?_
      refine o_V.widen (k := 1) (n := 3) (Nat.le_of_ble_eq_true rfl) (Nat.le_of_ble_eq_true rfl) ?_
      exact r_iret hc hr rfl dL_acts_136 (hq (_, _) rfl)
    · have hok := hok.2 c128
      have hq := o_qn hq c128
      refine r_iconst (pc := 131) (v := 1) hc dL_acts_131 rfl ?_
      refine r_goto (pc := 132) (tgt := 136) hc dL_acts_132 (by decide) ?_
      refine o_V.widen (k := 1) (n := 3) (Nat.le_of_ble_eq_true rfl) (Nat.le_of_ble_eq_true rfl) ?_
      exact r_iret hc hr rfl dL_acts_136 (hq (_, _) rfl)
  have hok := hok.2 s6_5
  have hq := o_qn hq s6_5
  refine o_cs ((f_L_low p1 14 σ) = 6) (fun s6_6 => ?_) (fun s6_6 => ?_)
  · have hok := hok.1 s6_6
    have hq := o_qp hq s6_6
    refine r_tabIn (pc := 6) (tgt := 137) (k := 6) (off := 131) hc dL_acts_6 s6_6 (by decide) (by decide) (by decide) (by decide) ?_
    refine r_iload_n (pc := 137) hc 2 dL_acts_137 rfl rfl ?_
    refine r_iconst (pc := 138) (v := 3) hc dL_acts_138 rfl ?_
    obtain ⟨hs20, hok⟩ := hok
    refine r_callS_i (pc := 139) (as := [.int _, .int _]) hc (c_L_low l _ hs20) mS_L_low kM_L_106 ⟨Nat.le_of_ble_eq_true rfl, Nat.le_of_ble_eq_true rfl⟩ ⟨Nat.le_of_ble_eq_true rfl, Nat.le_of_ble_eq_true rfl⟩ rfl rfl (Nat.le_of_ble_eq_true rfl) dL_acts_139 (fun r σ' h => ?_)
    obtain ⟨rfl, rfl⟩ := h
    refine r_istore_n (pc := 142) (lv' := [(3, _), (0, _), (1, _), (2, _)]) hc dL_acts_142 rfl (by decide) rfl ?_
    refine r_iload_n (pc := 143) hc 3 dL_acts_143 rfl rfl ?_
    refine r_bipush (pc := 144) (v := 6) hc dL_acts_144 (by decide) ?_
    refine r_ishr (pc := 146) hc dL_acts_146 ?_
    refine r_bipush (pc := 147) (v := 19) hc dL_acts_147 (by decide) ?_
    obtain ⟨hs21, hok⟩ := hok
    refine r_callS_i (pc := 149) (as := [.int _, .int _]) hc (c_L_low l _ hs21) mS_L_low kM_L_106 ⟨Nat.le_of_ble_eq_true rfl, Nat.le_of_ble_eq_true rfl⟩ ⟨Nat.le_of_ble_eq_true rfl, Nat.le_of_ble_eq_true rfl⟩ rfl rfl (Nat.le_of_ble_eq_true rfl) dL_acts_149 (fun r σ' h => ?_)
    obtain ⟨rfl, rfl⟩ := h
    refine r_bipush (pc := 152) (v := 9) hc dL_acts_152 (by decide) ?_
    refine r_isub (pc := 154) hc dL_acts_154 ?_
    refine r_istore (pc := 155) (lv' := [(4, _), (3, _), (0, _), (1, _), (2, _)]) hc dL_acts_155 (by decide) rfl ?_
    refine r_aload_n (pc := 157) hc 2 dL_acts_157 rfl rfl ?_
    refine r_iload_n (pc := 158) hc 1 dL_acts_158 rfl rfl ?_
    refine r_iload_n (pc := 159) hc 4 dL_acts_159 rfl rfl ?_
    refine r_iconst (pc := 160) (v := 2) hc dL_acts_160 rfl ?_
    refine r_ishr (pc := 161) hc dL_acts_161 ?_
    refine r_bipush (pc := 162) (v := 8) hc dL_acts_162 (by decide) ?_
    obtain ⟨hs22, hok⟩ := hok
    refine r_callS_i (pc := 164) (as := [.int _, .int _]) hc (c_L_low l _ hs22) mS_L_low kM_L_106 ⟨Nat.le_of_ble_eq_true rfl, Nat.le_of_ble_eq_true rfl⟩ ⟨Nat.le_of_ble_eq_true rfl, Nat.le_of_ble_eq_true rfl⟩ rfl rfl (Nat.le_of_ble_eq_true rfl) dL_acts_164 (fun r σ' h => ?_)
    obtain ⟨rfl, rfl⟩ := h
    refine r_iload (pc := 167) hc 0 dL_acts_167 rfl ?_
    obtain ⟨hs23, hok⟩ := hok
    refine r_callV_i (pc := 169) (as := [.int _, .int _, .int _]) hc (c_X5_disk l _ hs23) kk5 (o_lt hc (by decide)) rfl mV_X5_disk kM_L_53 ⟨Nat.le_of_ble_eq_true rfl, Nat.le_of_ble_eq_true rfl⟩ ⟨Nat.le_of_ble_eq_true rfl, Nat.le_of_ble_eq_true rfl⟩ rfl rfl (Nat.le_of_ble_eq_true rfl) dL_acts_169 (fun r σ' h => ?_)
    obtain ⟨rfl, rfl⟩ := h
    refine r_istore (pc := 172) (lv' := [(5, _), (4, _), (3, _), (0, _), (1, _), (2, _)]) hc dL_acts_172 (by decide) rfl ?_
    refine r_iload (pc := 174) hc 0 dL_acts_174 rfl ?_
    refine r_bipush (pc := 176) (v := 90) hc dL_acts_176 (by decide) ?_
    refine r_icmp_le (pc := 178) (tgt := 215) hc dL_acts_178 (by decide) (fun c178 => ?_) (fun c178 => ?_)
    · have hok := hok.1 c178
      have hq := o_qp hq c178
      refine r_iconst (pc := 215) (v := 0) hc dL_acts_215 rfl ?_
      refine o_V.widen (k := 1) (n := 3) (Nat.le_of_ble_eq_true rfl) (Nat.le_of_ble_eq_true rfl) ?_
      exact r_iret hc hr rfl dL_acts_216 (hq (_, _) rfl)
    · have hok := hok.2 c178
      have hq := o_qn hq c178
      refine r_iload (pc := 181) hc 0 dL_acts_181 rfl ?_
      refine r_bipush (pc := 183) (v := 110) hc dL_acts_183 (by decide) ?_
      refine r_icmp_ge (pc := 185) (tgt := 215) hc dL_acts_185 (by decide) (fun c185 => ?_) (fun c185 => ?_)
      · have hok := hok.1 c185
        have hq := o_qp hq c185
        refine r_iconst (pc := 215) (v := 0) hc dL_acts_215 rfl ?_
        refine o_V.widen (k := 1) (n := 3) (Nat.le_of_ble_eq_true rfl) (Nat.le_of_ble_eq_true rfl) ?_
        exact r_iret hc hr rfl dL_acts_216 (hq (_, _) rfl)
      · have hok := hok.2 c185
        have hq := o_qn hq c185
        refine r_aload_n (pc := 188) hc 3 dL_acts_188 rfl rfl ?_
        refine r_iload_n (pc := 189) hc 2 dL_acts_189 rfl rfl ?_
        refine r_iload_n (pc := 190) hc 5 dL_acts_190 rfl rfl ?_
        refine r_iconst (pc := 191) (v := 2) hc dL_acts_191 rfl ?_
        refine r_ishr (pc := 192) hc dL_acts_192 ?_
        refine r_bipush (pc := 193) (v := 8) hc dL_acts_193 (by decide) ?_
        obtain ⟨hs25, hok⟩ := hok
        refine r_callS_i (pc := 195) (as := [.int _, .int _]) hc (c_L_low l _ hs25) mS_L_low kM_L_106 ⟨Nat.le_of_ble_eq_true rfl, Nat.le_of_ble_eq_true rfl⟩ ⟨Nat.le_of_ble_eq_true rfl, Nat.le_of_ble_eq_true rfl⟩ rfl rfl (Nat.le_of_ble_eq_true rfl) dL_acts_195 (fun r σ' h => ?_)
        obtain ⟨rfl, rfl⟩ := h
        refine r_iload (pc := 198) hc 1 dL_acts_198 rfl ?_
        obtain ⟨hs26, hok⟩ := hok
        refine r_callV_i (pc := 200) (as := [.int _, .int _, .int _]) hc (c_X5_disk l _ hs26) kk5 (o_lt hc (by decide)) rfl mV_X5_disk kM_L_53 ⟨Nat.le_of_ble_eq_true rfl, Nat.le_of_ble_eq_true rfl⟩ ⟨Nat.le_of_ble_eq_true rfl, Nat.le_of_ble_eq_true rfl⟩ rfl rfl (Nat.le_of_ble_eq_true rfl) dL_acts_200 (fun r σ' h => ?_)
        obtain ⟨rfl, rfl⟩ := h
        refine r_iload (pc := 203) hc 1 dL_acts_203 rfl ?_
        refine r_bipush (pc := 205) (v := 100) hc dL_acts_205 (by decide) ?_
        refine r_iadd (pc := 207) hc dL_acts_207 ?_
        refine r_icmp_ne (pc := 208) (tgt := 215) hc dL_acts_208 (by decide) (fun c208 => ?_) (fun c208 => ?_)
        · have hok := hok.2 c208
          have hq := o_qn hq c208
          refine r_iconst (pc := 215) (v := 0) hc dL_acts_215 rfl ?_
          refine o_V.widen (k := 1) (n := 3) (Nat.le_of_ble_eq_true rfl) (Nat.le_of_ble_eq_true rfl) ?_
          exact r_iret hc hr rfl dL_acts_216 (hq (_, _) rfl)
        · have hok := hok.1 c208
          have hq := o_qp hq c208
          refine r_iconst (pc := 211) (v := 1) hc dL_acts_211 rfl ?_
          refine r_goto (pc := 212) (tgt := 216) hc dL_acts_212 (by decide) ?_
          refine o_V.widen (k := 1) (n := 3) (Nat.le_of_ble_eq_true rfl) (Nat.le_of_ble_eq_true rfl) ?_
          exact r_iret hc hr rfl dL_acts_216 (hq (_, _) rfl)
  have hok := hok.2 s6_6
  have hq := o_qn hq s6_6
  refine o_cs ((f_L_low p1 14 σ) = 7) (fun s6_7 => ?_) (fun s6_7 => ?_)
  · have hok := hok.1 s6_7
    have hq := o_qp hq s6_7
    refine r_tabIn (pc := 6) (tgt := 137) (k := 7) (off := 131) hc dL_acts_6 s6_7 (by decide) (by decide) (by decide) (by decide) ?_
    refine r_iload_n (pc := 137) hc 2 dL_acts_137 rfl rfl ?_
    refine r_iconst (pc := 138) (v := 3) hc dL_acts_138 rfl ?_
    obtain ⟨hs28, hok⟩ := hok
    refine r_callS_i (pc := 139) (as := [.int _, .int _]) hc (c_L_low l _ hs28) mS_L_low kM_L_106 ⟨Nat.le_of_ble_eq_true rfl, Nat.le_of_ble_eq_true rfl⟩ ⟨Nat.le_of_ble_eq_true rfl, Nat.le_of_ble_eq_true rfl⟩ rfl rfl (Nat.le_of_ble_eq_true rfl) dL_acts_139 (fun r σ' h => ?_)
    obtain ⟨rfl, rfl⟩ := h
    refine r_istore_n (pc := 142) (lv' := [(3, _), (0, _), (1, _), (2, _)]) hc dL_acts_142 rfl (by decide) rfl ?_
    refine r_iload_n (pc := 143) hc 3 dL_acts_143 rfl rfl ?_
    refine r_bipush (pc := 144) (v := 6) hc dL_acts_144 (by decide) ?_
    refine r_ishr (pc := 146) hc dL_acts_146 ?_
    refine r_bipush (pc := 147) (v := 19) hc dL_acts_147 (by decide) ?_
    obtain ⟨hs29, hok⟩ := hok
    refine r_callS_i (pc := 149) (as := [.int _, .int _]) hc (c_L_low l _ hs29) mS_L_low kM_L_106 ⟨Nat.le_of_ble_eq_true rfl, Nat.le_of_ble_eq_true rfl⟩ ⟨Nat.le_of_ble_eq_true rfl, Nat.le_of_ble_eq_true rfl⟩ rfl rfl (Nat.le_of_ble_eq_true rfl) dL_acts_149 (fun r σ' h => ?_)
    obtain ⟨rfl, rfl⟩ := h
    refine r_bipush (pc := 152) (v := 9) hc dL_acts_152 (by decide) ?_
    refine r_isub (pc := 154) hc dL_acts_154 ?_
    refine r_istore (pc := 155) (lv' := [(4, _), (3, _), (0, _), (1, _), (2, _)]) hc dL_acts_155 (by decide) rfl ?_
    refine r_aload_n (pc := 157) hc 2 dL_acts_157 rfl rfl ?_
    refine r_iload_n (pc := 158) hc 1 dL_acts_158 rfl rfl ?_
    refine r_iload_n (pc := 159) hc 4 dL_acts_159 rfl rfl ?_
    refine r_iconst (pc := 160) (v := 2) hc dL_acts_160 rfl ?_
    refine r_ishr (pc := 161) hc dL_acts_161 ?_
    refine r_bipush (pc := 162) (v := 8) hc dL_acts_162 (by decide) ?_
    obtain ⟨hs30, hok⟩ := hok
    refine r_callS_i (pc := 164) (as := [.int _, .int _]) hc (c_L_low l _ hs30) mS_L_low kM_L_106 ⟨Nat.le_of_ble_eq_true rfl, Nat.le_of_ble_eq_true rfl⟩ ⟨Nat.le_of_ble_eq_true rfl, Nat.le_of_ble_eq_true rfl⟩ rfl rfl (Nat.le_of_ble_eq_true rfl) dL_acts_164 (fun r σ' h => ?_)
    obtain ⟨rfl, rfl⟩ := h
    refine r_iload (pc := 167) hc 0 dL_acts_167 rfl ?_
    obtain ⟨hs31, hok⟩ := hok
    refine r_callV_i (pc := 169) (as := [.int _, .int _, .int _]) hc (c_X5_disk l _ hs31) kk5 (o_lt hc (by decide)) rfl mV_X5_disk kM_L_53 ⟨Nat.le_of_ble_eq_true rfl, Nat.le_of_ble_eq_true rfl⟩ ⟨Nat.le_of_ble_eq_true rfl, Nat.le_of_ble_eq_true rfl⟩ rfl rfl (Nat.le_of_ble_eq_true rfl) dL_acts_169 (fun r σ' h => ?_)
    obtain ⟨rfl, rfl⟩ := h
    refine r_istore (pc := 172) (lv' := [(5, _), (4, _), (3, _), (0, _), (1, _), (2, _)]) hc dL_acts_172 (by decide) rfl ?_
    refine r_iload (pc := 174) hc 0 dL_acts_174 rfl ?_
    refine r_bipush (pc := 176) (v := 90) hc dL_acts_176 (by decide) ?_
    refine r_icmp_le (pc := 178) (tgt := 215) hc dL_acts_178 (by decide) (fun c178 => ?_) (fun c178 => ?_)
    · have hok := hok.1 c178
      have hq := o_qp hq c178
      refine r_iconst (pc := 215) (v := 0) hc dL_acts_215 rfl ?_
      refine o_V.widen (k := 1) (n := 3) (Nat.le_of_ble_eq_true rfl) (Nat.le_of_ble_eq_true rfl) ?_
      exact r_iret hc hr rfl dL_acts_216 (hq (_, _) rfl)
    · have hok := hok.2 c178
      have hq := o_qn hq c178
      refine r_iload (pc := 181) hc 0 dL_acts_181 rfl ?_
      refine r_bipush (pc := 183) (v := 110) hc dL_acts_183 (by decide) ?_
      refine r_icmp_ge (pc := 185) (tgt := 215) hc dL_acts_185 (by decide) (fun c185 => ?_) (fun c185 => ?_)
      · have hok := hok.1 c185
        have hq := o_qp hq c185
        refine r_iconst (pc := 215) (v := 0) hc dL_acts_215 rfl ?_
        refine o_V.widen (k := 1) (n := 3) (Nat.le_of_ble_eq_true rfl) (Nat.le_of_ble_eq_true rfl) ?_
        exact r_iret hc hr rfl dL_acts_216 (hq (_, _) rfl)
      · have hok := hok.2 c185
        have hq := o_qn hq c185
        refine r_aload_n (pc := 188) hc 3 dL_acts_188 rfl rfl ?_
        refine r_iload_n (pc := 189) hc 2 dL_acts_189 rfl rfl ?_
        refine r_iload_n (pc := 190) hc 5 dL_acts_190 rfl rfl ?_
        refine r_iconst (pc := 191) (v := 2) hc dL_acts_191 rfl ?_
        refine r_ishr (pc := 192) hc dL_acts_192 ?_
        refine r_bipush (pc := 193) (v := 8) hc dL_acts_193 (by decide) ?_
        obtain ⟨hs33, hok⟩ := hok
        refine r_callS_i (pc := 195) (as := [.int _, .int _]) hc (c_L_low l _ hs33) mS_L_low kM_L_106 ⟨Nat.le_of_ble_eq_true rfl, Nat.le_of_ble_eq_true rfl⟩ ⟨Nat.le_of_ble_eq_true rfl, Nat.le_of_ble_eq_true rfl⟩ rfl rfl (Nat.le_of_ble_eq_true rfl) dL_acts_195 (fun r σ' h => ?_)
        obtain ⟨rfl, rfl⟩ := h
        refine r_iload (pc := 198) hc 1 dL_acts_198 rfl ?_
        obtain ⟨hs34, hok⟩ := hok
        refine r_callV_i (pc := 200) (as := [.int _, .int _, .int _]) hc (c_X5_disk l _ hs34) kk5 (o_lt hc (by decide)) rfl mV_X5_disk kM_L_53 ⟨Nat.le_of_ble_eq_true rfl, Nat.le_of_ble_eq_true rfl⟩ ⟨Nat.le_of_ble_eq_true rfl, Nat.le_of_ble_eq_true rfl⟩ rfl rfl (Nat.le_of_ble_eq_true rfl) dL_acts_200 (fun r σ' h => ?_)
        obtain ⟨rfl, rfl⟩ := h
        refine r_iload (pc := 203) hc 1 dL_acts_203 rfl ?_
        refine r_bipush (pc := 205) (v := 100) hc dL_acts_205 (by decide) ?_
        refine r_iadd (pc := 207) hc dL_acts_207 ?_
        refine r_icmp_ne (pc := 208) (tgt := 215) hc dL_acts_208 (by decide) (fun c208 => ?_) (fun c208 => ?_)
        · have hok := hok.2 c208
          have hq := o_qn hq c208
          refine r_iconst (pc := 215) (v := 0) hc dL_acts_215 rfl ?_
          refine o_V.widen (k := 1) (n := 3) (Nat.le_of_ble_eq_true rfl) (Nat.le_of_ble_eq_true rfl) ?_
          exact r_iret hc hr rfl dL_acts_216 (hq (_, _) rfl)
        · have hok := hok.1 c208
          have hq := o_qp hq c208
          refine r_iconst (pc := 211) (v := 1) hc dL_acts_211 rfl ?_
          refine r_goto (pc := 212) (tgt := 216) hc dL_acts_212 (by decide) ?_
          refine o_V.widen (k := 1) (n := 3) (Nat.le_of_ble_eq_true rfl) (Nat.le_of_ble_eq_true rfl) ?_
          exact r_iret hc hr rfl dL_acts_216 (hq (_, _) rfl)
  have hok := hok.2 s6_7
  have hq := o_qn hq s6_7
  refine o_cs ((f_L_low p1 14 σ) = 8) (fun s6_8 => ?_) (fun s6_8 => ?_)
  · have hok := hok.1 s6_8
    have hq := o_qp hq s6_8
    refine r_tabIn (pc := 6) (tgt := 217) (k := 8) (off := 211) hc dL_acts_6 s6_8 (by decide) (by decide) (by decide) (by decide) ?_
    refine r_aload_n (pc := 217) hc 0 dL_acts_217 rfl rfl ?_
    refine r_iload_n (pc := 218) hc 2 dL_acts_218 rfl rfl ?_
    refine r_iconst (pc := 219) (v := 3) hc dL_acts_219 rfl ?_
    obtain ⟨hs36, hok⟩ := hok
    refine r_callS_i (pc := 220) (as := [.int _, .int _]) hc (c_L_low l _ hs36) mS_L_low kM_L_106 ⟨Nat.le_of_ble_eq_true rfl, Nat.le_of_ble_eq_true rfl⟩ ⟨Nat.le_of_ble_eq_true rfl, Nat.le_of_ble_eq_true rfl⟩ rfl rfl (Nat.le_of_ble_eq_true rfl) dL_acts_220 (fun r σ' h => ?_)
    obtain ⟨rfl, rfl⟩ := h
    refine r_iload_n (pc := 223) hc 2 dL_acts_223 rfl rfl ?_
    refine r_iconst (pc := 224) (v := 2) hc dL_acts_224 rfl ?_
    refine r_ishr (pc := 225) hc dL_acts_225 ?_
    refine r_bipush (pc := 226) (v := 7) hc dL_acts_226 (by decide) ?_
    obtain ⟨hs37, hok⟩ := hok
    refine r_callS_i (pc := 228) (as := [.int _, .int _]) hc (c_L_low l _ hs37) mS_L_low kM_L_106 ⟨Nat.le_of_ble_eq_true rfl, Nat.le_of_ble_eq_true rfl⟩ ⟨Nat.le_of_ble_eq_true rfl, Nat.le_of_ble_eq_true rfl⟩ rfl rfl (Nat.le_of_ble_eq_true rfl) dL_acts_228 (fun r σ' h => ?_)
    obtain ⟨rfl, rfl⟩ := h
    refine r_iconst (pc := 231) (v := 3) hc dL_acts_231 rfl ?_
    refine r_isub (pc := 232) hc dL_acts_232 ?_
    obtain ⟨hs38, hok⟩ := hok
    refine r_callV_i (pc := 233) (as := [.int _, .int _]) hc (c_X5_noise l _ hs38) kk5 (o_lt hc (by decide)) rfl mV_X5_noise kM_L_57 ⟨Nat.le_of_ble_eq_true rfl, Nat.le_of_ble_eq_true rfl⟩ ⟨Nat.le_of_ble_eq_true rfl, Nat.le_of_ble_eq_true rfl⟩ rfl rfl (Nat.le_of_ble_eq_true rfl) dL_acts_233 (fun r σ' h => ?_)
    obtain ⟨rfl, rfl⟩ := h
    refine r_bipush (pc := 236) (v := 90) hc dL_acts_236 (by decide) ?_
    refine r_icmp_le (pc := 238) (tgt := 245) hc dL_acts_238 (by decide) (fun c238 => ?_) (fun c238 => ?_)
    · have hok := hok.1 c238
      have hq := o_qp hq c238
      refine r_iconst (pc := 245) (v := 0) hc dL_acts_245 rfl ?_
      refine o_V.widen (k := 1) (n := 3) (Nat.le_of_ble_eq_true rfl) (Nat.le_of_ble_eq_true rfl) ?_
      exact r_iret hc hr rfl dL_acts_246 (hq (_, _) rfl)
    · have hok := hok.2 c238
      have hq := o_qn hq c238
      refine r_iconst (pc := 241) (v := 1) hc dL_acts_241 rfl ?_
      refine r_goto (pc := 242) (tgt := 246) hc dL_acts_242 (by decide) ?_
      refine o_V.widen (k := 1) (n := 3) (Nat.le_of_ble_eq_true rfl) (Nat.le_of_ble_eq_true rfl) ?_
      exact r_iret hc hr rfl dL_acts_246 (hq (_, _) rfl)
  have hok := hok.2 s6_8
  have hq := o_qn hq s6_8
  refine o_cs ((f_L_low p1 14 σ) = 9) (fun s6_9 => ?_) (fun s6_9 => ?_)
  · have hok := hok.1 s6_9
    have hq := o_qp hq s6_9
    refine r_tabIn (pc := 6) (tgt := 247) (k := 9) (off := 241) hc dL_acts_6 s6_9 (by decide) (by decide) (by decide) (by decide) ?_
    refine r_iload_n (pc := 247) hc 2 dL_acts_247 rfl rfl ?_
    refine r_iconst (pc := 248) (v := 4) hc dL_acts_248 rfl ?_
    obtain ⟨hs40, hok⟩ := hok
    refine r_callS_i (pc := 249) (as := [.int _, .int _]) hc (c_L_low l _ hs40) mS_L_low kM_L_106 ⟨Nat.le_of_ble_eq_true rfl, Nat.le_of_ble_eq_true rfl⟩ ⟨Nat.le_of_ble_eq_true rfl, Nat.le_of_ble_eq_true rfl⟩ rfl rfl (Nat.le_of_ble_eq_true rfl) dL_acts_249 (fun r σ' h => ?_)
    obtain ⟨rfl, rfl⟩ := h
    refine r_istore_n (pc := 252) (lv' := [(3, _), (0, _), (1, _), (2, _)]) hc dL_acts_252 rfl (by decide) rfl ?_
    refine r_iload_n (pc := 253) hc 0 dL_acts_253 rfl rfl ?_
    refine r_if_ne (pc := 254) (tgt := 268) hc dL_acts_254 (by decide) (fun c254 => ?_) (fun c254 => ?_)
    · have hok := hok.2 c254
      have hq := o_qn hq c254
      refine r_iload_n (pc := 268) hc 0 dL_acts_268 rfl rfl ?_
      refine r_iconst (pc := 269) (v := 1) hc dL_acts_269 rfl ?_
      refine r_icmp_ne (pc := 270) (tgt := 284) hc dL_acts_270 (by decide) (fun c270 => ?_) (fun c270 => ?_)
      · have hok := hok.2 c270
        have hq := o_qn hq c270
        refine r_iload_n (pc := 284) hc 0 dL_acts_284 rfl rfl ?_
        refine r_iconst (pc := 285) (v := 2) hc dL_acts_285 rfl ?_
        refine r_icmp_ne (pc := 286) (tgt := 303) hc dL_acts_286 (by decide) (fun c286 => ?_) (fun c286 => ?_)
        · have hok := hok.2 c286
          have hq := o_qn hq c286
          refine r_iload_n (pc := 303) hc 3 dL_acts_303 rfl rfl ?_
          refine r_iconst (pc := 304) (v := 2) hc dL_acts_304 rfl ?_
          refine r_ishr (pc := 305) hc dL_acts_305 ?_
          refine r_bipush (pc := 306) (v := 9) hc dL_acts_306 (by decide) ?_
          obtain ⟨hs41, hok⟩ := hok
          refine r_callS_i (pc := 308) (as := [.int _, .int _]) hc (c_L_low l _ hs41) mS_L_low kM_L_106 ⟨Nat.le_of_ble_eq_true rfl, Nat.le_of_ble_eq_true rfl⟩ ⟨Nat.le_of_ble_eq_true rfl, Nat.le_of_ble_eq_true rfl⟩ rfl rfl (Nat.le_of_ble_eq_true rfl) dL_acts_308 (fun r σ' h => ?_)
          obtain ⟨rfl, rfl⟩ := h
          refine r_iconst (pc := 311) (v := 4) hc dL_acts_311 rfl ?_
          refine r_isub (pc := 312) hc dL_acts_312 ?_
          exact o_V.sub (t_L_acts_313 hG hc hr hok hq) [1, 0] rfl
        · have hok := hok.1 c286
          have hq := o_qp hq c286
          refine r_iconst (pc := 289) (v := 1) hc dL_acts_289 rfl ?_
          refine r_iload_n (pc := 290) hc 3 dL_acts_290 rfl rfl ?_
          refine r_iconst (pc := 291) (v := 2) hc dL_acts_291 rfl ?_
          refine r_ishr (pc := 292) hc dL_acts_292 ?_
          refine r_sipush (pc := 293) (v := 4080) hc dL_acts_293 (by decide) ?_
          obtain ⟨hs42, hok⟩ := hok
          refine r_callS_i (pc := 296) (as := [.int _, .int _]) hc (c_L_low l _ hs42) mS_L_low kM_L_106 ⟨Nat.le_of_ble_eq_true rfl, Nat.le_of_ble_eq_true rfl⟩ ⟨Nat.le_of_ble_eq_true rfl, Nat.le_of_ble_eq_true rfl⟩ rfl rfl (Nat.le_of_ble_eq_true rfl) dL_acts_296 (fun r σ' h => ?_)
          obtain ⟨rfl, rfl⟩ := h
          refine r_iadd (pc := 299) hc dL_acts_299 ?_
          refine r_goto (pc := 300) (tgt := 313) hc dL_acts_300 (by decide) ?_
          exact o_V.sub (t_L_acts_313 hG hc hr hok hq) [1, 0] rfl
      · have hok := hok.1 c270
        have hq := o_qp hq c270
        refine r_iload_n (pc := 273) hc 3 dL_acts_273 rfl rfl ?_
        refine r_iconst (pc := 274) (v := 2) hc dL_acts_274 rfl ?_
        refine r_ishr (pc := 275) hc dL_acts_275 ?_
        refine r_bipush (pc := 276) (v := 33) hc dL_acts_276 (by decide) ?_
        obtain ⟨hs43, hok⟩ := hok
        refine r_callS_i (pc := 278) (as := [.int _, .int _]) hc (c_L_low l _ hs43) mS_L_low kM_L_106 ⟨Nat.le_of_ble_eq_true rfl, Nat.le_of_ble_eq_true rfl⟩ ⟨Nat.le_of_ble_eq_true rfl, Nat.le_of_ble_eq_true rfl⟩ rfl rfl (Nat.le_of_ble_eq_true rfl) dL_acts_278 (fun r σ' h => ?_)
        obtain ⟨rfl, rfl⟩ := h
        refine r_goto (pc := 281) (tgt := 313) hc dL_acts_281 (by decide) ?_
        exact o_V.sub (t_L_acts_313 hG hc hr hok hq) [1, 0] rfl
    · have hok := hok.1 c254
      have hq := o_qp hq c254
      refine r_iload_n (pc := 257) hc 3 dL_acts_257 rfl rfl ?_
      refine r_iconst (pc := 258) (v := 2) hc dL_acts_258 rfl ?_
      refine r_ishr (pc := 259) hc dL_acts_259 ?_
      refine r_bipush (pc := 260) (v := 41) hc dL_acts_260 (by decide) ?_
      obtain ⟨hs44, hok⟩ := hok
      refine r_callS_i (pc := 262) (as := [.int _, .int _]) hc (c_L_low l _ hs44) mS_L_low kM_L_106 ⟨Nat.le_of_ble_eq_true rfl, Nat.le_of_ble_eq_true rfl⟩ ⟨Nat.le_of_ble_eq_true rfl, Nat.le_of_ble_eq_true rfl⟩ rfl rfl (Nat.le_of_ble_eq_true rfl) dL_acts_262 (fun r σ' h => ?_)
      obtain ⟨rfl, rfl⟩ := h
      refine r_goto (pc := 265) (tgt := 313) hc dL_acts_265 (by decide) ?_
      exact o_V.sub (t_L_acts_313 hG hc hr hok hq) [1, 0] rfl
  have hok := hok.2 s6_9
  have hq := o_qn hq s6_9
  refine o_cs ((f_L_low p1 14 σ) = 10) (fun s6_10 => ?_) (fun s6_10 => ?_)
  · have hok := hok.1 s6_10
    have hq := o_qp hq s6_10
    refine r_tabIn (pc := 6) (tgt := 356) (k := 10) (off := 350) hc dL_acts_6 s6_10 (by decide) (by decide) (by decide) (by decide) ?_
    refine r_aload_n (pc := 356) hc 0 dL_acts_356 rfl rfl ?_
    refine r_iload_n (pc := 357) hc 2 dL_acts_357 rfl rfl ?_
    refine r_iconst (pc := 358) (v := 3) hc dL_acts_358 rfl ?_
    obtain ⟨hs45, hok⟩ := hok
    refine r_callS_i (pc := 359) (as := [.int _, .int _]) hc (c_L_low l _ hs45) mS_L_low kM_L_106 ⟨Nat.le_of_ble_eq_true rfl, Nat.le_of_ble_eq_true rfl⟩ ⟨Nat.le_of_ble_eq_true rfl, Nat.le_of_ble_eq_true rfl⟩ rfl rfl (Nat.le_of_ble_eq_true rfl) dL_acts_359 (fun r σ' h => ?_)
    obtain ⟨rfl, rfl⟩ := h
    refine r_iload_n (pc := 362) hc 2 dL_acts_362 rfl rfl ?_
    refine r_iconst (pc := 363) (v := 2) hc dL_acts_363 rfl ?_
    refine r_ishr (pc := 364) hc dL_acts_364 ?_
    refine r_bipush (pc := 365) (v := 8) hc dL_acts_365 (by decide) ?_
    obtain ⟨hs46, hok⟩ := hok
    refine r_callS_i (pc := 367) (as := [.int _, .int _]) hc (c_L_low l _ hs46) mS_L_low kM_L_106 ⟨Nat.le_of_ble_eq_true rfl, Nat.le_of_ble_eq_true rfl⟩ ⟨Nat.le_of_ble_eq_true rfl, Nat.le_of_ble_eq_true rfl⟩ rfl rfl (Nat.le_of_ble_eq_true rfl) dL_acts_367 (fun r σ' h => ?_)
    obtain ⟨rfl, rfl⟩ := h
    refine r_iload_n (pc := 370) hc 2 dL_acts_370 rfl rfl ?_
    refine r_iconst (pc := 371) (v := 5) hc dL_acts_371 rfl ?_
    refine r_ishr (pc := 372) hc dL_acts_372 ?_
    refine r_bipush (pc := 373) (v := 41) hc dL_acts_373 (by decide) ?_
    obtain ⟨hs47, hok⟩ := hok
    refine r_callS_i (pc := 375) (as := [.int _, .int _]) hc (c_L_low l _ hs47) mS_L_low kM_L_106 ⟨Nat.le_of_ble_eq_true rfl, Nat.le_of_ble_eq_true rfl⟩ ⟨Nat.le_of_ble_eq_true rfl, Nat.le_of_ble_eq_true rfl⟩ rfl rfl (Nat.le_of_ble_eq_true rfl) dL_acts_375 (fun r σ' h => ?_)
    obtain ⟨rfl, rfl⟩ := h
    refine r_bipush (pc := 378) (v := 20) hc dL_acts_378 (by decide) ?_
    refine r_isub (pc := 380) hc dL_acts_380 ?_
    obtain ⟨hs48, hok⟩ := hok
    refine r_callV_i (pc := 381) (as := [.int _, .int _, .int _]) hc (c_X5_correct l _ hs48) kk5 (o_lt hc (by decide)) rfl mV_X5_correct kM_L_63 ⟨Nat.le_of_ble_eq_true rfl, Nat.le_of_ble_eq_true rfl⟩ ⟨Nat.le_of_ble_eq_true rfl, Nat.le_of_ble_eq_true rfl⟩ rfl rfl (Nat.le_of_ble_eq_true rfl) dL_acts_381 (fun r σ' h => ?_)
    obtain ⟨rfl, rfl⟩ := h
    refine r_bipush (pc := 384) (v := 79) hc dL_acts_384 (by decide) ?_
    refine r_icmp_le (pc := 386) (tgt := 393) hc dL_acts_386 (by decide) (fun c386 => ?_) (fun c386 => ?_)
    · have hok := hok.1 c386
      have hq := o_qp hq c386
      refine r_iconst (pc := 393) (v := 0) hc dL_acts_393 rfl ?_
      refine o_V.widen (k := 1) (n := 3) (Nat.le_of_ble_eq_true rfl) (Nat.le_of_ble_eq_true rfl) ?_
      exact r_iret hc hr rfl dL_acts_394 (hq (_, _) rfl)
    · have hok := hok.2 c386
      have hq := o_qn hq c386
      refine r_iconst (pc := 389) (v := 1) hc dL_acts_389 rfl ?_
      refine r_goto (pc := 390) (tgt := 394) hc dL_acts_390 (by decide) ?_
      refine o_V.widen (k := 1) (n := 3) (Nat.le_of_ble_eq_true rfl) (Nat.le_of_ble_eq_true rfl) ?_
      exact r_iret hc hr rfl dL_acts_394 (hq (_, _) rfl)
  have hok := hok.2 s6_10
  have hq := o_qn hq s6_10
  refine o_cs ((f_L_low p1 14 σ) = 11) (fun s6_11 => ?_) (fun s6_11 => ?_)
  · have hok := hok.1 s6_11
    have hq := o_qp hq s6_11
    refine r_tabIn (pc := 6) (tgt := 395) (k := 11) (off := 389) hc dL_acts_6 s6_11 (by decide) (by decide) (by decide) (by decide) ?_
    refine r_aload_n (pc := 395) hc 0 dL_acts_395 rfl rfl ?_
    obtain ⟨hs50, hok⟩ := hok
    refine r_callS_im (pc := 396) (as := [.ref (gAd G _)]) hc (c_L_isLearned l _ hG hs50) mS_L_isLearned kM_L_120 ⟨Nat.le_of_ble_eq_true rfl, Nat.le_of_ble_eq_true rfl⟩ ⟨Nat.le_of_ble_eq_true rfl, Nat.le_of_ble_eq_true rfl⟩ rfl rfl (Nat.le_of_ble_eq_true rfl) dL_acts_396 (fun r σ' h => ?_)
    obtain ⟨rfl, rfl⟩ := h
    obtain ⟨hs52, hok⟩ := hok
    exact r_iret hc hr hs52 dL_acts_399 (hq (_, _) rfl)
  have hok := hok.2 s6_11
  have hq := o_qn hq s6_11
  refine o_cs ((f_L_low p1 14 σ) = 12) (fun s6_12 => ?_) (fun s6_12 => ?_)
  · have hok := hok.1 s6_12
    have hq := o_qp hq s6_12
    refine r_tabIn (pc := 6) (tgt := 400) (k := 12) (off := 394) hc dL_acts_6 s6_12 (by decide) (by decide) (by decide) (by decide) ?_
    refine r_aload_n (pc := 400) hc 0 dL_acts_400 rfl rfl ?_
    refine r_bipush (pc := 401) (v := 6) hc dL_acts_401 (by decide) ?_
    obtain ⟨hs53, hok⟩ := hok
    refine r_callV_i (pc := 403) (as := [.int _]) hc (c_X5_count l _ hs53) kk5 (o_lt hc (by decide)) rfl mV_X5_count kM_L_19 ⟨Nat.le_of_ble_eq_true rfl, Nat.le_of_ble_eq_true rfl⟩ ⟨Nat.le_of_ble_eq_true rfl, Nat.le_of_ble_eq_true rfl⟩ rfl rfl (Nat.le_of_ble_eq_true rfl) dL_acts_403 (fun r σ' h => ?_)
    obtain ⟨rfl, rfl⟩ := h
    refine r_bipush (pc := 406) (v := (-4)) hc dL_acts_406 (by decide) ?_
    refine r_icmp_ne (pc := 408) (tgt := 415) hc dL_acts_408 (by decide) (fun c408 => ?_) (fun c408 => ?_)
    · have hok := hok.2 c408
      have hq := o_qn hq c408
      refine r_iconst (pc := 415) (v := 1) hc dL_acts_415 rfl ?_
      exact o_V.sub (t_L_acts_416 hG hc hr hok hq) [0] rfl
    · have hok := hok.1 c408
      have hq := o_qp hq c408
      refine r_iconst (pc := 411) (v := 0) hc dL_acts_411 rfl ?_
      refine r_goto (pc := 412) (tgt := 416) hc dL_acts_412 (by decide) ?_
      exact o_V.sub (t_L_acts_416 hG hc hr hok hq) [0] rfl
  have hok := hok.2 s6_12
  have hq := o_qn hq s6_12
  have e6_0 := lv_neT s6_0 (show (0 : Int32).toInt = 0 by decide)
  have e6_1 := lv_neT s6_1 (show (1 : Int32).toInt = 1 by decide)
  have e6_2 := lv_neT s6_2 (show (2 : Int32).toInt = 2 by decide)
  have e6_3 := lv_neT s6_3 (show (3 : Int32).toInt = 3 by decide)
  have e6_4 := lv_neT s6_4 (show (4 : Int32).toInt = 4 by decide)
  have e6_5 := lv_neT s6_5 (show (5 : Int32).toInt = 5 by decide)
  have e6_6 := lv_neT s6_6 (show (6 : Int32).toInt = 6 by decide)
  have e6_7 := lv_neT s6_7 (show (7 : Int32).toInt = 7 by decide)
  have e6_8 := lv_neT s6_8 (show (8 : Int32).toInt = 8 by decide)
  have e6_9 := lv_neT s6_9 (show (9 : Int32).toInt = 9 by decide)
  have e6_10 := lv_neT s6_10 (show (10 : Int32).toInt = 10 by decide)
  have e6_11 := lv_neT s6_11 (show (11 : Int32).toInt = 11 by decide)
  have e6_12 := lv_neT s6_12 (show (12 : Int32).toInt = 12 by decide)
  refine r_tabOut (pc := 6) (tgt := 451) hc dL_acts_6 (by omega) (by decide) ?_
  refine r_aload_n (pc := 451) hc 0 dL_acts_451 rfl rfl ?_
  obtain ⟨hs54, hok⟩ := hok
  refine r_callS_i (pc := 452) (as := [.ref (gAd G _)]) hc (c_L_isSampled l _ hs54) mS_L_isSampled kM_L_127 ⟨Nat.le_of_ble_eq_true rfl, Nat.le_of_ble_eq_true rfl⟩ ⟨Nat.le_of_ble_eq_true rfl, Nat.le_of_ble_eq_true rfl⟩ rfl rfl (Nat.le_of_ble_eq_true rfl) dL_acts_452 (fun r σ' h => ?_)
  obtain ⟨rfl, rfl⟩ := h
  obtain ⟨hs56, hok⟩ := hok
  refine o_V.widen (k := 1) (n := 3) (Nat.le_of_ble_eq_true rfl) (Nat.le_of_ble_eq_true rfl) ?_
  exact r_iret hc hr hs56 dL_acts_455 (hq (_, _) rfl)
