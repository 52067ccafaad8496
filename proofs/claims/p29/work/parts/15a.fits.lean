set_option linter.all false
noncomputable def f_L_fits_505  (y0 : Int32) (y1 : Int32) (σ : Sg) : Int32 × Sg :=
  o_ite (y1 = y0) (
    (1, σ)) (
    (0, σ))
def ok_L_fits_505  (y0 : Int32) (y1 : Int32) (σ : Sg) : Prop :=
  ((y1 = y0) →
    True) ∧ (¬ (y1 = y0) →
    True)
noncomputable def f_L_fits_452  (x5 : Int32) (x6 : Int32) (x7 : Int32) (x8 : Int32) (x9 : Int32) (y0 : Int32) (σ : Sg) : Int32 × Sg :=
  o_ite (x5 = 0) (
    (0, σ)) (
    o_ite (x7 = x9) (
      let q3 := f_X5_look 1 σ
      o_ite (q3.1 = (f_L_byTable y0 1 σ)) (
        let q5 := f_X5_look 3 q3.2
        o_ite ((x8 / 510) = (x6 / 510)) (
          f_L_fits_505 2 (q5.1) q5.2) (
          f_L_fits_505 3 (q5.1) q5.2)) (
        (0, q3.2))) (
      (0, σ)))
def ok_L_fits_452  (x5 : Int32) (x6 : Int32) (x7 : Int32) (x8 : Int32) (x9 : Int32) (y0 : Int32) (σ : Sg) : Prop :=
  (ok_L_byTable y0 1 σ) ∧ (((x5 = 0) →
    True) ∧ (¬ (x5 = 0) →
    ((x7 = x9) →
      (ok_X5_look 1 σ) ∧ (let q3 := f_X5_look 1 σ
      ((q3.1 = (f_L_byTable y0 1 σ)) →
        (ok_X5_look 3 q3.2) ∧ (let q5 := f_X5_look 3 q3.2
        (((x8 / 510) = (x6 / 510)) →
          ok_L_fits_505 2 (q5.1) q5.2) ∧ (¬ ((x8 / 510) = (x6 / 510)) →
          ok_L_fits_505 3 (q5.1) q5.2))) ∧ (¬ (q3.1 = (f_L_byTable y0 1 σ)) →
        True))) ∧ (¬ (x7 = x9) →
      True)))
noncomputable def f_L_fits_419  (x5 : Int32) (x6 : Int32) (x7 : Int32) (x8 : Int32) (y0 : Int32) (σ : Sg) : Int32 × Sg :=
  o_ite ((x8 / 510) = (x6 / 510)) (
    f_L_fits_452 x5 x6 x7 x8 y0 (x6 / 510) σ) (
    f_L_fits_452 x5 x6 x7 x8 y0 (x8 / 510) σ)
def ok_L_fits_419  (x5 : Int32) (x6 : Int32) (x7 : Int32) (x8 : Int32) (y0 : Int32) (σ : Sg) : Prop :=
  (((x8 / 510) = (x6 / 510)) →
    ok_L_fits_452 x5 x6 x7 x8 y0 (x6 / 510) σ) ∧ (¬ ((x8 / 510) = (x6 / 510)) →
    ok_L_fits_452 x5 x6 x7 x8 y0 (x8 / 510) σ)
noncomputable def f_L_fits_373  (x6 : Int32) (x7 : Int32) (y0 : Int32) (σ : Sg) : Int32 × Sg :=
  o_ite (((f_L_byTable (x6 / 510) 0 σ) / 510) = (x6 / 510)) (
    f_L_fits_419 y0 x6 x7 (f_L_byTable (x6 / 510) 0 σ) (f_L_byTable (x6 / 510) 0 σ) σ) (
    let r3 := f_L_byTable ((f_L_byTable (x6 / 510) 0 σ) / 510) 0 σ
    f_L_fits_419 y0 x6 x7 (f_L_byTable (x6 / 510) 0 σ) r3 σ)
def ok_L_fits_373  (x6 : Int32) (x7 : Int32) (y0 : Int32) (σ : Sg) : Prop :=
  (ok_L_byTable (x6 / 510) 0 σ) ∧ (((((f_L_byTable (x6 / 510) 0 σ) / 510) = (x6 / 510)) →
    ok_L_fits_419 y0 x6 x7 (f_L_byTable (x6 / 510) 0 σ) (f_L_byTable (x6 / 510) 0 σ) σ) ∧ (¬ (((f_L_byTable (x6 / 510) 0 σ) / 510) = (x6 / 510)) →
    (ok_L_byTable ((f_L_byTable (x6 / 510) 0 σ) / 510) 0 σ) ∧ (let r3 := f_L_byTable ((f_L_byTable (x6 / 510) 0 σ) / 510) 0 σ
    ok_L_fits_419 y0 x6 x7 (f_L_byTable (x6 / 510) 0 σ) r3 σ)))
noncomputable def f_L_fits_372  (x6 : Int32) (x7 : Int32) (σ : Sg) : Int32 × Sg :=
  f_L_fits_373 x6 x7 0 σ
def ok_L_fits_372  (x6 : Int32) (x7 : Int32) (σ : Sg) : Prop :=
  ok_L_fits_373 x6 x7 0 σ
noncomputable def f_L_fits_365  (x6 : Int32) (x7 : Int32) (y0 : Int32) (y1 : Int32) (σ : Sg) : Int32 × Sg :=
  o_ite (y1 = y0) (
    f_L_fits_373 x6 x7 1 σ) (
    f_L_fits_372 x6 x7 σ)
def ok_L_fits_365  (x6 : Int32) (x7 : Int32) (y0 : Int32) (y1 : Int32) (σ : Sg) : Prop :=
  ((y1 = y0) →
    ok_L_fits_373 x6 x7 1 σ) ∧ (¬ (y1 = y0) →
    ok_L_fits_372 x6 x7 σ)
noncomputable def f_L_fits_305  (x2 : Int32) (x5 : Int32) (σ : Sg) : Int32 × Sg :=
  let q2 := f_X5_look 2 σ
  let q4 := f_X5_look 0 q2.2
  o_ite (x5 = 0) (
    f_L_fits_372 (q2.1) (q4.1) q4.2) (
    let r9 := f_X5_found (f_X5_reading 0 q4.2) (f_X5_reading 1 q4.2) (f_X5_reading 2 q4.2) 0 q4.2
    o_ite (q2.1 = r9) (
      let q11 := f_X5_look 4 q4.2
      o_ite (q4.1 = x2) (
        f_L_fits_365 (q2.1) (q4.1) 1 (q11.1) q11.2) (
        f_L_fits_365 (q2.1) (q4.1) 0 (q11.1) q11.2)) (
      f_L_fits_372 (q2.1) (q4.1) q4.2))
def ok_L_fits_305  (x2 : Int32) (x5 : Int32) (σ : Sg) : Prop :=
  (ok_X5_look 2 σ) ∧ (let q2 := f_X5_look 2 σ
  (ok_X5_look 0 q2.2) ∧ (let q4 := f_X5_look 0 q2.2
  ((x5 = 0) →
    ok_L_fits_372 (q2.1) (q4.1) q4.2) ∧ (¬ (x5 = 0) →
    (ok_X5_reading 0 q4.2) ∧ ((ok_X5_reading 1 q4.2) ∧ ((ok_X5_reading 2 q4.2) ∧ ((ok_X5_found (f_X5_reading 0 q4.2) (f_X5_reading 1 q4.2) (f_X5_reading 2 q4.2) 0 q4.2) ∧ (let r9 := f_X5_found (f_X5_reading 0 q4.2) (f_X5_reading 1 q4.2) (f_X5_reading 2 q4.2) 0 q4.2
    ((q2.1 = r9) →
      (ok_X5_look 4 q4.2) ∧ (let q11 := f_X5_look 4 q4.2
      ((q4.1 = x2) →
        ok_L_fits_365 (q2.1) (q4.1) 1 (q11.1) q11.2) ∧ (¬ (q4.1 = x2) →
        ok_L_fits_365 (q2.1) (q4.1) 0 (q11.1) q11.2))) ∧ (¬ (q2.1 = r9) →
      ok_L_fits_372 (q2.1) (q4.1) q4.2))))))))
noncomputable def f_L_fits_260  : Nat → Int32 → Int32 → Int32 → Sg → Int32 × Sg
  | 0 => fun _ _ _ σ => (0, σ)
  | n + 1 => fun x2 x5 x6 σ =>
    o_ite (3 ≤ x6) (
      f_L_fits_305 x2 x5 σ) (
      o_ite (x5 = 0) (
        f_L_fits_305 x2 x5 σ) (
        let r4 := f_L_near ((f_X5_reading x6 σ) - x2) (f_L_period x6 σ) σ
        o_ite (19 ≤ r4) (
          f_L_fits_260 n x2 0 (x6 + 1) σ) (
          f_L_fits_260 n x2 1 (x6 + 1) σ)))
def ok_L_fits_260  : Nat → Int32 → Int32 → Int32 → Sg → Prop
  | 0 => fun _ _ _ _ => False
  | n + 1 => fun x2 x5 x6 σ =>
    ((3 ≤ x6) →
      ok_L_fits_305 x2 x5 σ) ∧ (¬ (3 ≤ x6) →
      ((x5 = 0) →
        ok_L_fits_305 x2 x5 σ) ∧ (¬ (x5 = 0) →
        (ok_X5_reading x6 σ) ∧ ((ok_L_period x6 σ) ∧ ((ok_L_near ((f_X5_reading x6 σ) - x2) (f_L_period x6 σ) σ) ∧ (let r4 := f_L_near ((f_X5_reading x6 σ) - x2) (f_L_period x6 σ) σ
        ((19 ≤ r4) →
          ok_L_fits_260  n x2 0 (x6 + 1) σ) ∧ (¬ (19 ≤ r4) →
          ok_L_fits_260  n x2 1 (x6 + 1) σ))))))
noncomputable def f_L_fits_231  (x2 : Int32) (y0 : Int32) (y1 : Int32) (σ : Sg) : Int32 × Sg :=
  o_ite (y1 = y0) (
    o_ite ((f_X5_poor σ) < 0) (
      f_L_fits_260  oF x2 0 0 σ) (
      o_ite (9 ≤ (f_X5_poor σ)) (
        f_L_fits_260  oF x2 0 0 σ) (
        f_L_fits_260  oF x2 1 0 σ))) (
    f_L_fits_260  oF x2 0 0 σ)
def ok_L_fits_231  (x2 : Int32) (y0 : Int32) (y1 : Int32) (σ : Sg) : Prop :=
  ((y1 = y0) →
    (ok_X5_poor σ) ∧ ((((f_X5_poor σ) < 0) →
      ok_L_fits_260  oF x2 0 0 σ) ∧ (¬ ((f_X5_poor σ) < 0) →
      (ok_X5_poor σ) ∧ (((9 ≤ (f_X5_poor σ)) →
        ok_L_fits_260  oF x2 0 0 σ) ∧ (¬ (9 ≤ (f_X5_poor σ)) →
        ok_L_fits_260  oF x2 1 0 σ))))) ∧ (¬ (y1 = y0) →
    ok_L_fits_260  oF x2 0 0 σ)
noncomputable def f_L_fits_20  : Nat → Int32 → Int32 → Int32 → Int32 → Sg → Int32 × Sg
  | 0 => fun _ _ _ _ σ => (0, σ)
  | n + 1 => fun x1 x2 x3 x5 σ =>
    o_ite (24 ≤ x5) (
      o_ite (x1 < 0) (
        f_L_fits_260  oF x2 0 0 σ) (
        o_ite (65280 ≤ x1) (
          f_L_fits_260  oF x2 0 0 σ) (
          o_ite (x2 = (x1 - x1 / 4080 * 4080)) (
            o_ite ((f_X5_count 2 σ) < 0) (
              f_L_fits_260  oF x2 0 0 σ) (
              o_ite (64 ≤ (f_X5_count 2 σ)) (
                f_L_fits_260  oF x2 0 0 σ) (
                o_ite ((f_X5_count 4 σ) < 0) (
                  f_L_fits_260  oF x2 0 0 σ) (
                  o_ite (1000 ≤ (f_X5_count 4 σ)) (
                    f_L_fits_260  oF x2 0 0 σ) (
                    o_ite ((f_X5_count 5 σ) < 0) (
                      f_L_fits_260  oF x2 0 0 σ) (
                      o_ite (100 ≤ (f_X5_count 5 σ)) (
                        f_L_fits_260  oF x2 0 0 σ) (
                        let r10 := f_L_rest ((((x2 * 64) / 4080) + (f_X5_count 23 σ)) - 100) 64 σ
                        o_ite ((f_X5_count 8 σ) = r10) (
                          o_ite ((f_X5_count 9 σ) = x3) (
                            o_ite ((f_X5_count 6 σ) < (-4)) (
                              f_L_fits_260  oF x2 0 0 σ) (
                              o_ite (65280 ≤ (f_X5_count 6 σ)) (
                                f_L_fits_260  oF x2 0 0 σ) (
                                o_ite ((f_X5_count 6 σ) = (-4)) (
                                  f_L_fits_231 x2 (-4) (f_X5_apart σ) σ) (
                                  f_L_fits_231 x2 (f_L_near ((f_X5_count 6 σ) - x1) 65280 σ) (f_X5_apart σ) σ)))) (
                            f_L_fits_260  oF x2 0 0 σ)) (
                          f_L_fits_260  oF x2 0 0 σ)))))))) (
            f_L_fits_260  oF x2 0 0 σ)))) (
      o_ite ((f_X5_correction (x5 / 8) (x5 - x5 / 8 * 8) σ) = 100) (
        f_L_fits_20 n x1 x2 (x3 + 0) (x5 + 1) σ) (
        f_L_fits_20 n x1 x2 (x3 + 1) (x5 + 1) σ))
def ok_L_fits_20  : Nat → Int32 → Int32 → Int32 → Int32 → Sg → Prop
  | 0 => fun _ _ _ _ _ => False
  | n + 1 => fun x1 x2 x3 x5 σ =>
    ((24 ≤ x5) →
      ((x1 < 0) →
        ok_L_fits_260  oF x2 0 0 σ) ∧ (¬ (x1 < 0) →
        ((65280 ≤ x1) →
          ok_L_fits_260  oF x2 0 0 σ) ∧ (¬ (65280 ≤ x1) →
          ((x2 = (x1 - x1 / 4080 * 4080)) →
            (ok_X5_count 2 σ) ∧ ((((f_X5_count 2 σ) < 0) →
              ok_L_fits_260  oF x2 0 0 σ) ∧ (¬ ((f_X5_count 2 σ) < 0) →
              (ok_X5_count 2 σ) ∧ (((64 ≤ (f_X5_count 2 σ)) →
                ok_L_fits_260  oF x2 0 0 σ) ∧ (¬ (64 ≤ (f_X5_count 2 σ)) →
                (ok_X5_count 4 σ) ∧ ((((f_X5_count 4 σ) < 0) →
                  ok_L_fits_260  oF x2 0 0 σ) ∧ (¬ ((f_X5_count 4 σ) < 0) →
                  (ok_X5_count 4 σ) ∧ (((1000 ≤ (f_X5_count 4 σ)) →
                    ok_L_fits_260  oF x2 0 0 σ) ∧ (¬ (1000 ≤ (f_X5_count 4 σ)) →
                    (ok_X5_count 5 σ) ∧ ((((f_X5_count 5 σ) < 0) →
                      ok_L_fits_260  oF x2 0 0 σ) ∧ (¬ ((f_X5_count 5 σ) < 0) →
                      (ok_X5_count 5 σ) ∧ (((100 ≤ (f_X5_count 5 σ)) →
                        ok_L_fits_260  oF x2 0 0 σ) ∧ (¬ (100 ≤ (f_X5_count 5 σ)) →
                        (ok_X5_count 8 σ) ∧ ((ok_X5_count 23 σ) ∧ ((ok_L_rest ((((x2 * 64) / 4080) + (f_X5_count 23 σ)) - 100) 64 σ) ∧ (let r10 := f_L_rest ((((x2 * 64) / 4080) + (f_X5_count 23 σ)) - 100) 64 σ
                        (((f_X5_count 8 σ) = r10) →
                          (ok_X5_count 9 σ) ∧ ((((f_X5_count 9 σ) = x3) →
                            (ok_X5_count 6 σ) ∧ ((((f_X5_count 6 σ) < (-4)) →
                              ok_L_fits_260  oF x2 0 0 σ) ∧ (¬ ((f_X5_count 6 σ) < (-4)) →
                              (ok_X5_count 6 σ) ∧ (((65280 ≤ (f_X5_count 6 σ)) →
                                ok_L_fits_260  oF x2 0 0 σ) ∧ (¬ (65280 ≤ (f_X5_count 6 σ)) →
                                (ok_X5_apart σ) ∧ ((ok_X5_count 6 σ) ∧ ((((f_X5_count 6 σ) = (-4)) →
                                  ok_L_fits_231 x2 (-4) (f_X5_apart σ) σ) ∧ (¬ ((f_X5_count 6 σ) = (-4)) →
                                  (ok_X5_count 6 σ) ∧ ((ok_L_near ((f_X5_count 6 σ) - x1) 65280 σ) ∧ (ok_L_fits_231 x2 (f_L_near ((f_X5_count 6 σ) - x1) 65280 σ) (f_X5_apart σ) σ)))))))))) ∧ (¬ ((f_X5_count 9 σ) = x3) →
                            ok_L_fits_260  oF x2 0 0 σ))) ∧ (¬ ((f_X5_count 8 σ) = r10) →
                          ok_L_fits_260  oF x2 0 0 σ))))))))))))))))) ∧ (¬ (x2 = (x1 - x1 / 4080 * 4080)) →
            ok_L_fits_260  oF x2 0 0 σ)))) ∧ (¬ (24 ≤ x5) →
      (ok_X5_correction (x5 / 8) (x5 - x5 / 8 * 8) σ) ∧ ((((f_X5_correction (x5 / 8) (x5 - x5 / 8 * 8) σ) = 100) →
        ok_L_fits_20  n x1 x2 (x3 + 0) (x5 + 1) σ) ∧ (¬ ((f_X5_correction (x5 / 8) (x5 - x5 / 8 * 8) σ) = 100) →
        ok_L_fits_20  n x1 x2 (x3 + 1) (x5 + 1) σ)))
noncomputable def f_L_fits  (σ : Sg) : Int32 × Sg :=
  f_L_fits_20  oF (f_X5_count 0 σ) (f_X5_count 1 σ) 0 0 σ
def ok_L_fits  (σ : Sg) : Prop :=
  (ok_X5_count 0 σ) ∧ ((ok_X5_count 1 σ) ∧ (ok_L_fits_20  oF (f_X5_count 0 σ) (f_X5_count 1 σ) 0 0 σ))
set_option maxHeartbeats 4000000 in
set_option maxRecDepth 100000 in
theorem t_L_fits_505 {p : Program} {l : Launch} {e : Env} {s : State} {m : MethodId} {args : Array Value} {below : List Frame} {meth : Method} {c : Code} {G : Gt} {post : Int32 → Sg → Prop}   (hc : o_Cx p s m args meth c G cL_fits yL_fits.cls 11) (hr : meth.sig.returnType = (some .boolean)) {y0 : Int32} {y1 : Int32} {σ : Sg} (hok : ok_L_fits_505  y0 y1 σ) (hq : ∀ q : Int32 × Sg, q = f_L_fits_505  y0 y1 σ → post q.1 q.2) : o_V p l e { frames := 7, cells := 0, slots := 0, locals := 166 } s m args below meth c (MQ below (va_Qi post (fun σ' t => o_W G σ' t.heap) (o_A G)) args s 0 0 (o_A G)) G 0 0 11 σ 505 [] [.int y0, .int y1] := by
  refine r_icmp_ne (pc := 505) (tgt := 512) hc dL_fits_505 (by decide) (fun c505 => ?_) (fun c505 => ?_)
  · have hok := hok.2 c505
    have hq := o_qn hq c505
    refine r_iconst (pc := 512) (v := 0) hc dL_fits_512 rfl ?_
    exact r_iret hc hr rfl dL_fits_513 (hq (_, _) rfl)
  · have hok := hok.1 c505
    have hq := o_qp hq c505
    refine r_iconst (pc := 508) (v := 1) hc dL_fits_508 rfl ?_
    refine r_goto (pc := 509) (tgt := 513) hc dL_fits_509 (by decide) ?_
    exact r_iret hc hr rfl dL_fits_513 (hq (_, _) rfl)
set_option maxHeartbeats 4000000 in
set_option maxRecDepth 100000 in
theorem t_L_fits_452 {p : Program} {l : Launch} {e : Env} {s : State} {m : MethodId} {args : Array Value} {below : List Frame} {meth : Method} {c : Code} {G : Gt} {post : Int32 → Sg → Prop}   (hc : o_Cx p s m args meth c G cL_fits yL_fits.cls 11) (hr : meth.sig.returnType = (some .boolean)) {x5 : Int32} {x6 : Int32} {x7 : Int32} {x8 : Int32} {x9 : Int32} {y0 : Int32} {σ : Sg} (hok : ok_L_fits_452  x5 x6 x7 x8 x9 y0 σ) (hq : ∀ q : Int32 × Sg, q = f_L_fits_452  x5 x6 x7 x8 x9 y0 σ → post q.1 q.2) : o_V p l e { frames := 7, cells := 0, slots := 0, locals := 166 } s m args below meth c (MQ below (va_Qi post (fun σ' t => o_W G σ' t.heap) (o_A G)) args s 0 0 (o_A G)) G 0 0 11 σ 452 [(0, .ref (gAd G 0)), (5, .int x5), (6, .int x6), (7, .int x7), (8, .int x8), (9, .int x9)] [.int y0, .ref (gAd G 0)] := by
  refine r_iconst (pc := 452) (v := 1) hc dL_fits_452 rfl ?_
  obtain ⟨hs1, hok⟩ := hok
  refine r_callS_i (pc := 453) (as := [.ref (gAd G _), .int _, .int _]) hc (c_L_byTable l _ hs1) mS_L_byTable kM_L_101 ⟨Nat.le_of_ble_eq_true rfl, Nat.le_of_ble_eq_true rfl⟩ ⟨Nat.le_of_ble_eq_true rfl, Nat.le_of_ble_eq_true rfl⟩ rfl rfl (Nat.le_of_ble_eq_true rfl) dL_fits_453 (fun r σ' h => ?_)
  obtain ⟨rfl, rfl⟩ := h
  refine r_istore (pc := 456) (lv' := [(10, _), (0, _), (5, _), (6, _), (7, _), (8, _), (9, _)]) hc dL_fits_456 (by decide) rfl ?_
  refine r_iload (pc := 458) hc 2 dL_fits_458 rfl ?_
  refine r_if_eq (pc := 460) (tgt := 512) hc dL_fits_460 (by decide) (fun c460 => ?_) (fun c460 => ?_)
  · have hok := hok.1 c460
    have hq := o_qp hq c460
    refine r_iconst (pc := 512) (v := 0) hc dL_fits_512 rfl ?_
    exact r_iret hc hr rfl dL_fits_513 (hq (_, _) rfl)
  · have hok := hok.2 c460
    have hq := o_qn hq c460
    refine r_iload (pc := 463) hc 4 dL_fits_463 rfl ?_
    refine r_iload (pc := 465) hc 6 dL_fits_465 rfl ?_
    refine r_icmp_ne (pc := 467) (tgt := 512) hc dL_fits_467 (by decide) (fun c467 => ?_) (fun c467 => ?_)
    · have hok := hok.2 c467
      have hq := o_qn hq c467
      refine r_iconst (pc := 512) (v := 0) hc dL_fits_512 rfl ?_
      exact r_iret hc hr rfl dL_fits_513 (hq (_, _) rfl)
    · have hok := hok.1 c467
      have hq := o_qp hq c467
      refine r_aload_n (pc := 470) hc 1 dL_fits_470 rfl rfl ?_
      refine r_iconst (pc := 471) (v := 1) hc dL_fits_471 rfl ?_
      obtain ⟨hs2, hok⟩ := hok
      refine r_callV_i (pc := 472) (as := [.int _]) hc (c_X5_look l _ hs2) kk5 (o_lt hc (by decide)) rfl mV_X5_look kM_L_66 ⟨Nat.le_of_ble_eq_true rfl, Nat.le_of_ble_eq_true rfl⟩ ⟨Nat.le_of_ble_eq_true rfl, Nat.le_of_ble_eq_true rfl⟩ rfl rfl (Nat.le_of_ble_eq_true rfl) dL_fits_472 (fun r σ' h => ?_)
      obtain ⟨rfl, rfl⟩ := h
      refine r_iload (pc := 475) hc 0 dL_fits_475 rfl ?_
      refine r_icmp_ne (pc := 477) (tgt := 512) hc dL_fits_477 (by decide) (fun c477 => ?_) (fun c477 => ?_)
      · have hok := hok.2 c477
        have hq := o_qn hq c477
        refine r_iconst (pc := 512) (v := 0) hc dL_fits_512 rfl ?_
        exact r_iret hc hr rfl dL_fits_513 (hq (_, _) rfl)
      · have hok := hok.1 c477
        have hq := o_qp hq c477
        refine r_aload_n (pc := 480) hc 1 dL_fits_480 rfl rfl ?_
        refine r_iconst (pc := 481) (v := 3) hc dL_fits_481 rfl ?_
        obtain ⟨hs4, hok⟩ := hok
        refine r_callV_i (pc := 482) (as := [.int _]) hc (c_X5_look l _ hs4) kk5 (o_lt hc (by decide)) rfl mV_X5_look kM_L_66 ⟨Nat.le_of_ble_eq_true rfl, Nat.le_of_ble_eq_true rfl⟩ ⟨Nat.le_of_ble_eq_true rfl, Nat.le_of_ble_eq_true rfl⟩ rfl rfl (Nat.le_of_ble_eq_true rfl) dL_fits_482 (fun r σ' h => ?_)
        obtain ⟨rfl, rfl⟩ := h
        refine r_iload (pc := 485) hc 5 dL_fits_485 rfl ?_
        refine r_sipush (pc := 487) (v := 510) hc dL_fits_487 (by decide) ?_
        refine r_idiv (pc := 490) hc dL_fits_490 (by decide) ?_
        refine r_iload (pc := 491) hc 3 dL_fits_491 rfl ?_
        refine r_sipush (pc := 493) (v := 510) hc dL_fits_493 (by decide) ?_
        refine r_idiv (pc := 496) hc dL_fits_496 (by decide) ?_
        refine r_icmp_ne (pc := 497) (tgt := 504) hc dL_fits_497 (by decide) (fun c497 => ?_) (fun c497 => ?_)
        · have hok := hok.2 c497
          have hq := o_qn hq c497
          refine r_iconst (pc := 504) (v := 3) hc dL_fits_504 rfl ?_
          exact o_V.sub (t_L_fits_505  hc hr hok hq) [] rfl
        · have hok := hok.1 c497
          have hq := o_qp hq c497
          refine r_iconst (pc := 500) (v := 2) hc dL_fits_500 rfl ?_
          refine r_goto (pc := 501) (tgt := 505) hc dL_fits_501 (by decide) ?_
          exact o_V.sub (t_L_fits_505  hc hr hok hq) [] rfl
set_option maxHeartbeats 4000000 in
set_option maxRecDepth 100000 in
theorem t_L_fits_419 {p : Program} {l : Launch} {e : Env} {s : State} {m : MethodId} {args : Array Value} {below : List Frame} {meth : Method} {c : Code} {G : Gt} {post : Int32 → Sg → Prop}   (hc : o_Cx p s m args meth c G cL_fits yL_fits.cls 11) (hr : meth.sig.returnType = (some .boolean)) {x5 : Int32} {x6 : Int32} {x7 : Int32} {x8 : Int32} {y0 : Int32} {σ : Sg} (hok : ok_L_fits_419  x5 x6 x7 x8 y0 σ) (hq : ∀ q : Int32 × Sg, q = f_L_fits_419  x5 x6 x7 x8 y0 σ → post q.1 q.2) : o_V p l e { frames := 7, cells := 0, slots := 0, locals := 166 } s m args below meth c (MQ below (va_Qi post (fun σ' t => o_W G σ' t.heap) (o_A G)) args s 0 0 (o_A G)) G 0 0 11 σ 419 [(0, .ref (gAd G 0)), (5, .int x5), (6, .int x6), (7, .int x7), (8, .int x8)] [.int y0] := by
  refine r_istore (pc := 419) (lv' := [(9, _), (0, _), (5, _), (6, _), (7, _), (8, _)]) hc dL_fits_419 (by decide) rfl ?_
  refine r_aload_n (pc := 421) hc 1 dL_fits_421 rfl rfl ?_
  refine r_iload (pc := 422) hc 5 dL_fits_422 rfl ?_
  refine r_sipush (pc := 424) (v := 510) hc dL_fits_424 (by decide) ?_
  refine r_idiv (pc := 427) hc dL_fits_427 (by decide) ?_
  refine r_iload (pc := 428) hc 3 dL_fits_428 rfl ?_
  refine r_sipush (pc := 430) (v := 510) hc dL_fits_430 (by decide) ?_
  refine r_idiv (pc := 433) hc dL_fits_433 (by decide) ?_
  refine r_icmp_ne (pc := 434) (tgt := 446) hc dL_fits_434 (by decide) (fun c434 => ?_) (fun c434 => ?_)
  · have hok := hok.2 c434
    have hq := o_qn hq c434
    refine r_iload (pc := 446) hc 5 dL_fits_446 rfl ?_
    refine r_sipush (pc := 448) (v := 510) hc dL_fits_448 (by decide) ?_
    refine r_idiv (pc := 451) hc dL_fits_451 (by decide) ?_
    exact o_V.sub (t_L_fits_452  hc hr hok hq) [1, 2, 3, 4, 5, 0] rfl
  · have hok := hok.1 c434
    have hq := o_qp hq c434
    refine r_iload (pc := 437) hc 3 dL_fits_437 rfl ?_
    refine r_sipush (pc := 439) (v := 510) hc dL_fits_439 (by decide) ?_
    refine r_idiv (pc := 442) hc dL_fits_442 (by decide) ?_
    refine r_goto (pc := 443) (tgt := 452) hc dL_fits_443 (by decide) ?_
    exact o_V.sub (t_L_fits_452  hc hr hok hq) [1, 2, 3, 4, 5, 0] rfl
set_option maxHeartbeats 4000000 in
set_option maxRecDepth 100000 in
theorem t_L_fits_373 {p : Program} {l : Launch} {e : Env} {s : State} {m : MethodId} {args : Array Value} {below : List Frame} {meth : Method} {c : Code} {G : Gt} {post : Int32 → Sg → Prop}   (hc : o_Cx p s m args meth c G cL_fits yL_fits.cls 11) (hr : meth.sig.returnType = (some .boolean)) {x6 : Int32} {x7 : Int32} {y0 : Int32} {σ : Sg} (hok : ok_L_fits_373  x6 x7 y0 σ) (hq : ∀ q : Int32 × Sg, q = f_L_fits_373  x6 x7 y0 σ → post q.1 q.2) : o_V p l e { frames := 7, cells := 0, slots := 0, locals := 166 } s m args below meth c (MQ below (va_Qi post (fun σ' t => o_W G σ' t.heap) (o_A G)) args s 0 0 (o_A G)) G 0 0 11 σ 373 [(0, .ref (gAd G 0)), (6, .int x6), (7, .int x7)] [.int y0] := by
  refine r_istore (pc := 373) (lv' := [(5, _), (0, _), (6, _), (7, _)]) hc dL_fits_373 (by decide) rfl ?_
  refine r_aload_n (pc := 375) hc 1 dL_fits_375 rfl rfl ?_
  refine r_iload (pc := 376) hc 2 dL_fits_376 rfl ?_
  refine r_sipush (pc := 378) (v := 510) hc dL_fits_378 (by decide) ?_
  refine r_idiv (pc := 381) hc dL_fits_381 (by decide) ?_
  refine r_iconst (pc := 382) (v := 0) hc dL_fits_382 rfl ?_
  obtain ⟨hs1, hok⟩ := hok
  refine r_callS_i (pc := 383) (as := [.ref (gAd G _), .int _, .int _]) hc (c_L_byTable l _ hs1) mS_L_byTable kM_L_101 ⟨Nat.le_of_ble_eq_true rfl, Nat.le_of_ble_eq_true rfl⟩ ⟨Nat.le_of_ble_eq_true rfl, Nat.le_of_ble_eq_true rfl⟩ rfl rfl (Nat.le_of_ble_eq_true rfl) dL_fits_383 (fun r σ' h => ?_)
  obtain ⟨rfl, rfl⟩ := h
  refine r_istore (pc := 386) (lv' := [(8, _), (5, _), (0, _), (6, _), (7, _)]) hc dL_fits_386 (by decide) rfl ?_
  refine r_iload (pc := 388) hc 0 dL_fits_388 rfl ?_
  refine r_sipush (pc := 390) (v := 510) hc dL_fits_390 (by decide) ?_
  refine r_idiv (pc := 393) hc dL_fits_393 (by decide) ?_
  refine r_iload (pc := 394) hc 3 dL_fits_394 rfl ?_
  refine r_sipush (pc := 396) (v := 510) hc dL_fits_396 (by decide) ?_
  refine r_idiv (pc := 399) hc dL_fits_399 (by decide) ?_
  refine r_icmp_ne (pc := 400) (tgt := 408) hc dL_fits_400 (by decide) (fun c400 => ?_) (fun c400 => ?_)
  · have hok := hok.2 c400
    have hq := o_qn hq c400
    refine r_aload_n (pc := 408) hc 2 dL_fits_408 rfl rfl ?_
    refine r_iload (pc := 409) hc 0 dL_fits_409 rfl ?_
    refine r_sipush (pc := 411) (v := 510) hc dL_fits_411 (by decide) ?_
    refine r_idiv (pc := 414) hc dL_fits_414 (by decide) ?_
    refine r_iconst (pc := 415) (v := 0) hc dL_fits_415 rfl ?_
    obtain ⟨hs2, hok⟩ := hok
    refine r_callS_i (pc := 416) (as := [.ref (gAd G _), .int _, .int _]) hc (c_L_byTable l _ hs2) mS_L_byTable kM_L_101 ⟨Nat.le_of_ble_eq_true rfl, Nat.le_of_ble_eq_true rfl⟩ ⟨Nat.le_of_ble_eq_true rfl, Nat.le_of_ble_eq_true rfl⟩ rfl rfl (Nat.le_of_ble_eq_true rfl) dL_fits_416 (fun r σ' h => ?_)
    obtain ⟨rfl, rfl⟩ := h
    exact o_V.sub (t_L_fits_419  hc hr hok hq) [2, 1, 3, 4, 0] rfl
  · have hok := hok.1 c400
    have hq := o_qp hq c400
    refine r_iload (pc := 403) hc 0 dL_fits_403 rfl ?_
    refine r_goto (pc := 405) (tgt := 419) hc dL_fits_405 (by decide) ?_
    exact o_V.sub (t_L_fits_419  hc hr hok hq) [2, 1, 3, 4, 0] rfl
set_option maxHeartbeats 4000000 in
set_option maxRecDepth 100000 in
theorem t_L_fits_372 {p : Program} {l : Launch} {e : Env} {s : State} {m : MethodId} {args : Array Value} {below : List Frame} {meth : Method} {c : Code} {G : Gt} {post : Int32 → Sg → Prop}   (hc : o_Cx p s m args meth c G cL_fits yL_fits.cls 11) (hr : meth.sig.returnType = (some .boolean)) {x6 : Int32} {x7 : Int32} {σ : Sg} (hok : ok_L_fits_372  x6 x7 σ) (hq : ∀ q : Int32 × Sg, q = f_L_fits_372  x6 x7 σ → post q.1 q.2) : o_V p l e { frames := 7, cells := 0, slots := 0, locals := 166 } s m args below meth c (MQ below (va_Qi post (fun σ' t => o_W G σ' t.heap) (o_A G)) args s 0 0 (o_A G)) G 0 0 11 σ 372 [(0, .ref (gAd G 0)), (6, .int x6), (7, .int x7)] [] := by
  refine r_iconst (pc := 372) (v := 0) hc dL_fits_372 rfl ?_
  exact o_V.sub (t_L_fits_373  hc hr hok hq) [0, 1, 2] rfl
set_option maxHeartbeats 4000000 in
set_option maxRecDepth 100000 in
theorem t_L_fits_365 {p : Program} {l : Launch} {e : Env} {s : State} {m : MethodId} {args : Array Value} {below : List Frame} {meth : Method} {c : Code} {G : Gt} {post : Int32 → Sg → Prop}   (hc : o_Cx p s m args meth c G cL_fits yL_fits.cls 11) (hr : meth.sig.returnType = (some .boolean)) {x6 : Int32} {x7 : Int32} {y0 : Int32} {y1 : Int32} {σ : Sg} (hok : ok_L_fits_365  x6 x7 y0 y1 σ) (hq : ∀ q : Int32 × Sg, q = f_L_fits_365  x6 x7 y0 y1 σ → post q.1 q.2) : o_V p l e { frames := 7, cells := 0, slots := 0, locals := 166 } s m args below meth c (MQ below (va_Qi post (fun σ' t => o_W G σ' t.heap) (o_A G)) args s 0 0 (o_A G)) G 0 0 11 σ 365 [(0, .ref (gAd G 0)), (6, .int x6), (7, .int x7)] [.int y0, .int y1] := by
  refine r_icmp_ne (pc := 365) (tgt := 372) hc dL_fits_365 (by decide) (fun c365 => ?_) (fun c365 => ?_)
  · have hok := hok.2 c365
    have hq := o_qn hq c365
    exact o_V.sub (t_L_fits_372  hc hr hok hq) [0, 1, 2] rfl
  · have hok := hok.1 c365
    have hq := o_qp hq c365
    refine r_iconst (pc := 368) (v := 1) hc dL_fits_368 rfl ?_
    refine r_goto (pc := 369) (tgt := 373) hc dL_fits_369 (by decide) ?_
    exact o_V.sub (t_L_fits_373  hc hr hok hq) [0, 1, 2] rfl
set_option maxHeartbeats 4000000 in
set_option maxRecDepth 100000 in
theorem t_L_fits_305 {p : Program} {l : Launch} {e : Env} {s : State} {m : MethodId} {args : Array Value} {below : List Frame} {meth : Method} {c : Code} {G : Gt} {post : Int32 → Sg → Prop}   (hc : o_Cx p s m args meth c G cL_fits yL_fits.cls 11) (hr : meth.sig.returnType = (some .boolean)) {x2 : Int32} {x5 : Int32} {σ : Sg} (hok : ok_L_fits_305  x2 x5 σ) (hq : ∀ q : Int32 × Sg, q = f_L_fits_305  x2 x5 σ → post q.1 q.2) : o_V p l e { frames := 7, cells := 0, slots := 0, locals := 166 } s m args below meth c (MQ below (va_Qi post (fun σ' t => o_W G σ' t.heap) (o_A G)) args s 0 0 (o_A G)) G 0 0 11 σ 305 [(0, .ref (gAd G 0)), (2, .int x2), (5, .int x5)] [] := by
  refine r_aload_n (pc := 305) hc 0 dL_fits_305 rfl rfl ?_
  refine r_iconst (pc := 306) (v := 2) hc dL_fits_306 rfl ?_
  obtain ⟨hs1, hok⟩ := hok
  refine r_callV_i (pc := 307) (as := [.int _]) hc (c_X5_look l _ hs1) kk5 (o_lt hc (by decide)) rfl mV_X5_look kM_L_66 ⟨Nat.le_of_ble_eq_true rfl, Nat.le_of_ble_eq_true rfl⟩ ⟨Nat.le_of_ble_eq_true rfl, Nat.le_of_ble_eq_true rfl⟩ rfl rfl (Nat.le_of_ble_eq_true rfl) dL_fits_307 (fun r σ' h => ?_)
  obtain ⟨rfl, rfl⟩ := h
  refine r_istore (pc := 310) (lv' := [(6, _), (0, _), (2, _), (5, _)]) hc dL_fits_310 (by decide) rfl ?_
  refine r_aload_n (pc := 312) hc 1 dL_fits_312 rfl rfl ?_
  refine r_iconst (pc := 313) (v := 0) hc dL_fits_313 rfl ?_
  obtain ⟨hs3, hok⟩ := hok
  refine r_callV_i (pc := 314) (as := [.int _]) hc (c_X5_look l _ hs3) kk5 (o_lt hc (by decide)) rfl mV_X5_look kM_L_66 ⟨Nat.le_of_ble_eq_true rfl, Nat.le_of_ble_eq_true rfl⟩ ⟨Nat.le_of_ble_eq_true rfl, Nat.le_of_ble_eq_true rfl⟩ rfl rfl (Nat.le_of_ble_eq_true rfl) dL_fits_314 (fun r σ' h => ?_)
  obtain ⟨rfl, rfl⟩ := h
  refine r_istore (pc := 317) (lv' := [(7, _), (6, _), (0, _), (2, _), (5, _)]) hc dL_fits_317 (by decide) rfl ?_
  refine r_iload (pc := 319) hc 4 dL_fits_319 rfl ?_
  refine r_if_eq (pc := 321) (tgt := 372) hc dL_fits_321 (by decide) (fun c321 => ?_) (fun c321 => ?_)
  · have hok := hok.1 c321
    have hq := o_qp hq c321
    exact o_V.sub (t_L_fits_372  hc hr hok hq) [2, 1, 0] rfl
  · have hok := hok.2 c321
    have hq := o_qn hq c321
    refine r_iload (pc := 324) hc 1 dL_fits_324 rfl ?_
    refine r_aload_n (pc := 326) hc 2 dL_fits_326 rfl rfl ?_
    refine r_aload_n (pc := 327) hc 2 dL_fits_327 rfl rfl ?_
    refine r_iconst (pc := 328) (v := 0) hc dL_fits_328 rfl ?_
    obtain ⟨hs5, hok⟩ := hok
    refine r_callV_i (pc := 329) (as := [.int _]) hc (c_X5_reading l _ hs5) kk5 (o_lt hc (by decide)) rfl mV_X5_reading kM_L_30 ⟨Nat.le_of_ble_eq_true rfl, Nat.le_of_ble_eq_true rfl⟩ ⟨Nat.le_of_ble_eq_true rfl, Nat.le_of_ble_eq_true rfl⟩ rfl rfl (Nat.le_of_ble_eq_true rfl) dL_fits_329 (fun r σ' h => ?_)
    obtain ⟨rfl, rfl⟩ := h
    refine r_aload_n (pc := 332) hc 2 dL_fits_332 rfl rfl ?_
    refine r_iconst (pc := 333) (v := 1) hc dL_fits_333 rfl ?_
    obtain ⟨hs6, hok⟩ := hok
    refine r_callV_i (pc := 334) (as := [.int _]) hc (c_X5_reading l _ hs6) kk5 (o_lt hc (by decide)) rfl mV_X5_reading kM_L_30 ⟨Nat.le_of_ble_eq_true rfl, Nat.le_of_ble_eq_true rfl⟩ ⟨Nat.le_of_ble_eq_true rfl, Nat.le_of_ble_eq_true rfl⟩ rfl rfl (Nat.le_of_ble_eq_true rfl) dL_fits_334 (fun r σ' h => ?_)
    obtain ⟨rfl, rfl⟩ := h
    refine r_aload_n (pc := 337) hc 2 dL_fits_337 rfl rfl ?_
    refine r_iconst (pc := 338) (v := 2) hc dL_fits_338 rfl ?_
    obtain ⟨hs7, hok⟩ := hok
    refine r_callV_i (pc := 339) (as := [.int _]) hc (c_X5_reading l _ hs7) kk5 (o_lt hc (by decide)) rfl mV_X5_reading kM_L_30 ⟨Nat.le_of_ble_eq_true rfl, Nat.le_of_ble_eq_true rfl⟩ ⟨Nat.le_of_ble_eq_true rfl, Nat.le_of_ble_eq_true rfl⟩ rfl rfl (Nat.le_of_ble_eq_true rfl) dL_fits_339 (fun r σ' h => ?_)
    obtain ⟨rfl, rfl⟩ := h
    refine r_iconst (pc := 342) (v := 0) hc dL_fits_342 rfl ?_
    obtain ⟨hs8, hok⟩ := hok
    refine r_callV_i (pc := 343) (as := [.int _, .int _, .int _, .int _]) hc (c_X5_found l _ hs8) kk5 (o_lt hc (by decide)) rfl mV_X5_found kM_L_72 ⟨Nat.le_of_ble_eq_true rfl, Nat.le_of_ble_eq_true rfl⟩ ⟨Nat.le_of_ble_eq_true rfl, Nat.le_of_ble_eq_true rfl⟩ rfl rfl (Nat.le_of_ble_eq_true rfl) dL_fits_343 (fun r σ' h => ?_)
    obtain ⟨rfl, rfl⟩ := h
    refine r_icmp_ne (pc := 346) (tgt := 372) hc dL_fits_346 (by decide) (fun c346 => ?_) (fun c346 => ?_)
    · have hok := hok.2 c346
      have hq := o_qn hq c346
      exact o_V.sub (t_L_fits_372  hc hr hok hq) [2, 1, 0] rfl
    · have hok := hok.1 c346
      have hq := o_qp hq c346
      refine r_aload_n (pc := 349) hc 2 dL_fits_349 rfl rfl ?_
      refine r_iconst (pc := 350) (v := 4) hc dL_fits_350 rfl ?_
      obtain ⟨hs10, hok⟩ := hok
      refine r_callV_i (pc := 351) (as := [.int _]) hc (c_X5_look l _ hs10) kk5 (o_lt hc (by decide)) rfl mV_X5_look kM_L_66 ⟨Nat.le_of_ble_eq_true rfl, Nat.le_of_ble_eq_true rfl⟩ ⟨Nat.le_of_ble_eq_true rfl, Nat.le_of_ble_eq_true rfl⟩ rfl rfl (Nat.le_of_ble_eq_true rfl) dL_fits_351 (fun r σ' h => ?_)
      obtain ⟨rfl, rfl⟩ := h
      refine r_iload (pc := 354) hc 0 dL_fits_354 rfl ?_
      refine r_iload_n (pc := 356) hc 3 dL_fits_356 rfl rfl ?_
      refine r_icmp_ne (pc := 357) (tgt := 364) hc dL_fits_357 (by decide) (fun c357 => ?_) (fun c357 => ?_)
      · have hok := hok.2 c357
        have hq := o_qn hq c357
        refine r_iconst (pc := 364) (v := 0) hc dL_fits_364 rfl ?_
        exact o_V.sub (t_L_fits_365  hc hr hok hq) [2, 1, 0] rfl
      · have hok := hok.1 c357
        have hq := o_qp hq c357
        refine r_iconst (pc := 360) (v := 1) hc dL_fits_360 rfl ?_
        refine r_goto (pc := 361) (tgt := 365) hc dL_fits_361 (by decide) ?_
        exact o_V.sub (t_L_fits_365  hc hr hok hq) [2, 1, 0] rfl
set_option maxHeartbeats 4000000 in
set_option maxRecDepth 100000 in
theorem t_L_fits_260 {p : Program} {l : Launch} {e : Env} {s : State} {m : MethodId} {args : Array Value} {below : List Frame} {meth : Method} {c : Code} {G : Gt} {post : Int32 → Sg → Prop}   (hc : o_Cx p s m args meth c G cL_fits yL_fits.cls 11) (hr : meth.sig.returnType = (some .boolean)) : ∀ (n : Nat) (x2 : Int32) (x5 : Int32) (x6 : Int32) (σ : Sg) (hok : ok_L_fits_260  n x2 x5 x6 σ) (hq : ∀ q : Int32 × Sg, q = f_L_fits_260  n x2 x5 x6 σ → post q.1 q.2), o_V p l e { frames := 7, cells := 0, slots := 0, locals := 166 } s m args below meth c (MQ below (va_Qi post (fun σ' t => o_W G σ' t.heap) (o_A G)) args s 0 0 (o_A G)) G 0 0 11 σ 260 [(0, .ref (gAd G 0)), (2, .int x2), (5, .int x5), (6, .int x6)] [] := by
  intro n
  induction n with
  | zero =>
    intro x2 x5 x6 σ hok hq
    exact hok.elim
  | succ n ih =>
    intro x2 x5 x6 σ hok hq
    refine r_iload (pc := 260) hc 3 dL_fits_260 rfl ?_
    refine r_iconst (pc := 262) (v := 3) hc dL_fits_262 rfl ?_
    refine r_icmp_ge (pc := 263) (tgt := 305) hc dL_fits_263 (by decide) (fun c263 => ?_) (fun c263 => ?_)
    · have hok := hok.1 c263
      have hq := o_qp hq c263
      exact o_V.sub (t_L_fits_305  hc hr hok hq) [0, 1, 2] rfl
    · have hok := hok.2 c263
      have hq := o_qn hq c263
      refine r_iload (pc := 266) hc 2 dL_fits_266 rfl ?_
      refine r_if_eq (pc := 268) (tgt := 305) hc dL_fits_268 (by decide) (fun c268 => ?_) (fun c268 => ?_)
      · have hok := hok.1 c268
        have hq := o_qp hq c268
        exact o_V.sub (t_L_fits_305  hc hr hok hq) [0, 1, 2] rfl
      · have hok := hok.2 c268
        have hq := o_qn hq c268
        refine r_aload_n (pc := 271) hc 0 dL_fits_271 rfl rfl ?_
        refine r_iload (pc := 272) hc 3 dL_fits_272 rfl ?_
        obtain ⟨hs1, hok⟩ := hok
        refine r_callV_i (pc := 274) (as := [.int _]) hc (c_X5_reading l _ hs1) kk5 (o_lt hc (by decide)) rfl mV_X5_reading kM_L_30 ⟨Nat.le_of_ble_eq_true rfl, Nat.le_of_ble_eq_true rfl⟩ ⟨Nat.le_of_ble_eq_true rfl, Nat.le_of_ble_eq_true rfl⟩ rfl rfl (Nat.le_of_ble_eq_true rfl) dL_fits_274 (fun r σ' h => ?_)
        obtain ⟨rfl, rfl⟩ := h
        refine r_iload_n (pc := 277) hc 1 dL_fits_277 rfl rfl ?_
        refine r_isub (pc := 278) hc dL_fits_278 ?_
        refine r_iload (pc := 279) hc 3 dL_fits_279 rfl ?_
        obtain ⟨hs2, hok⟩ := hok
        refine r_callS_i (pc := 281) (as := [.int _]) hc (c_L_period l _ hs2) mS_L_period kM_L_98 ⟨Nat.le_of_ble_eq_true rfl, Nat.le_of_ble_eq_true rfl⟩ ⟨Nat.le_of_ble_eq_true rfl, Nat.le_of_ble_eq_true rfl⟩ rfl rfl (Nat.le_of_ble_eq_true rfl) dL_fits_281 (fun r σ' h => ?_)
        obtain ⟨rfl, rfl⟩ := h
        obtain ⟨hs3, hok⟩ := hok
        refine r_callS_i (pc := 284) (as := [.int _, .int _]) hc (c_L_near l _ hs3) mS_L_near kM_L_95 ⟨Nat.le_of_ble_eq_true rfl, Nat.le_of_ble_eq_true rfl⟩ ⟨Nat.le_of_ble_eq_true rfl, Nat.le_of_ble_eq_true rfl⟩ rfl rfl (Nat.le_of_ble_eq_true rfl) dL_fits_284 (fun r σ' h => ?_)
        obtain ⟨rfl, rfl⟩ := h
        refine r_bipush (pc := 287) (v := 19) hc dL_fits_287 (by decide) ?_
        refine r_icmp_ge (pc := 289) (tgt := 296) hc dL_fits_289 (by decide) (fun c289 => ?_) (fun c289 => ?_)
        · have hok := hok.1 c289
          have hq := o_qp hq c289
          refine r_iconst (pc := 296) (v := 0) hc dL_fits_296 rfl ?_
          refine r_istore (pc := 297) (lv' := [(5, _), (0, _), (2, _), (6, _)]) hc dL_fits_297 (by decide) rfl ?_
          refine r_iinc (pc := 299) (q := 3) (v := _ + 1) (lv' := [(6, _), (5, _), (0, _), (2, _)]) hc dL_fits_299 rfl rfl (by decide) rfl ?_
          refine r_goto (pc := 302) (tgt := 260) hc dL_fits_302 (by decide) ?_
          exact o_V.sub (ih _ _ _ _ hok hq) [2, 3, 1, 0] rfl
        · have hok := hok.2 c289
          have hq := o_qn hq c289
          refine r_iconst (pc := 292) (v := 1) hc dL_fits_292 rfl ?_
          refine r_goto (pc := 293) (tgt := 297) hc dL_fits_293 (by decide) ?_
          refine r_istore (pc := 297) (lv' := [(5, _), (0, _), (2, _), (6, _)]) hc dL_fits_297 (by decide) rfl ?_
          refine r_iinc (pc := 299) (q := 3) (v := _ + 1) (lv' := [(6, _), (5, _), (0, _), (2, _)]) hc dL_fits_299 rfl rfl (by decide) rfl ?_
          refine r_goto (pc := 302) (tgt := 260) hc dL_fits_302 (by decide) ?_
          exact o_V.sub (ih _ _ _ _ hok hq) [2, 3, 1, 0] rfl
set_option maxHeartbeats 4000000 in
set_option maxRecDepth 100000 in
theorem t_L_fits_231 {p : Program} {l : Launch} {e : Env} {s : State} {m : MethodId} {args : Array Value} {below : List Frame} {meth : Method} {c : Code} {G : Gt} {post : Int32 → Sg → Prop}   (hc : o_Cx p s m args meth c G cL_fits yL_fits.cls 11) (hr : meth.sig.returnType = (some .boolean)) {x2 : Int32} {y0 : Int32} {y1 : Int32} {σ : Sg} (hok : ok_L_fits_231  x2 y0 y1 σ) (hq : ∀ q : Int32 × Sg, q = f_L_fits_231  x2 y0 y1 σ → post q.1 q.2) : o_V p l e { frames := 7, cells := 0, slots := 0, locals := 166 } s m args below meth c (MQ below (va_Qi post (fun σ' t => o_W G σ' t.heap) (o_A G)) args s 0 0 (o_A G)) G 0 0 11 σ 231 [(0, .ref (gAd G 0)), (2, .int x2)] [.int y0, .int y1] := by
  refine r_icmp_ne (pc := 231) (tgt := 254) hc dL_fits_231 (by decide) (fun c231 => ?_) (fun c231 => ?_)
  · have hok := hok.2 c231
    have hq := o_qn hq c231
    refine r_iconst (pc := 254) (v := 0) hc dL_fits_254 rfl ?_
    refine r_istore (pc := 255) (lv' := [(5, _), (0, _), (2, _)]) hc dL_fits_255 (by decide) rfl ?_
    refine r_iconst (pc := 257) (v := 0) hc dL_fits_257 rfl ?_
    refine r_istore (pc := 258) (lv' := [(6, _), (5, _), (0, _), (2, _)]) hc dL_fits_258 (by decide) rfl ?_
    exact o_V.sub (t_L_fits_260  hc hr oF _ _ _ _ hok hq) [2, 3, 1, 0] rfl
  · have hok := hok.1 c231
    have hq := o_qp hq c231
    refine r_aload_n (pc := 234) hc 0 dL_fits_234 rfl rfl ?_
    obtain ⟨hs1, hok⟩ := hok
    refine r_callV_i (pc := 235) (as := []) hc (c_X5_poor l _ hs1) kk5 (o_lt hc (by decide)) rfl mV_X5_poor kM_L_33 ⟨Nat.le_of_ble_eq_true rfl, Nat.le_of_ble_eq_true rfl⟩ ⟨Nat.le_of_ble_eq_true rfl, Nat.le_of_ble_eq_true rfl⟩ rfl rfl (Nat.le_of_ble_eq_true rfl) dL_fits_235 (fun r σ' h => ?_)
    obtain ⟨rfl, rfl⟩ := h
    refine r_if_lt (pc := 238) (tgt := 254) hc dL_fits_238 (by decide) (fun c238 => ?_) (fun c238 => ?_)
    · have hok := hok.1 c238
      have hq := o_qp hq c238
      refine r_iconst (pc := 254) (v := 0) hc dL_fits_254 rfl ?_
      refine r_istore (pc := 255) (lv' := [(5, _), (0, _), (2, _)]) hc dL_fits_255 (by decide) rfl ?_
      refine r_iconst (pc := 257) (v := 0) hc dL_fits_257 rfl ?_
      refine r_istore (pc := 258) (lv' := [(6, _), (5, _), (0, _), (2, _)]) hc dL_fits_258 (by decide) rfl ?_
      exact o_V.sub (t_L_fits_260  hc hr oF _ _ _ _ hok hq) [2, 3, 1, 0] rfl
    · have hok := hok.2 c238
      have hq := o_qn hq c238
      refine r_aload_n (pc := 241) hc 0 dL_fits_241 rfl rfl ?_
      obtain ⟨hs2, hok⟩ := hok
      refine r_callV_i (pc := 242) (as := []) hc (c_X5_poor l _ hs2) kk5 (o_lt hc (by decide)) rfl mV_X5_poor kM_L_33 ⟨Nat.le_of_ble_eq_true rfl, Nat.le_of_ble_eq_true rfl⟩ ⟨Nat.le_of_ble_eq_true rfl, Nat.le_of_ble_eq_true rfl⟩ rfl rfl (Nat.le_of_ble_eq_true rfl) dL_fits_242 (fun r σ' h => ?_)
      obtain ⟨rfl, rfl⟩ := h
      refine r_bipush (pc := 245) (v := 9) hc dL_fits_245 (by decide) ?_
      refine r_icmp_ge (pc := 247) (tgt := 254) hc dL_fits_247 (by decide) (fun c247 => ?_) (fun c247 => ?_)
      · have hok := hok.1 c247
        have hq := o_qp hq c247
        refine r_iconst (pc := 254) (v := 0) hc dL_fits_254 rfl ?_
        refine r_istore (pc := 255) (lv' := [(5, _), (0, _), (2, _)]) hc dL_fits_255 (by decide) rfl ?_
        refine r_iconst (pc := 257) (v := 0) hc dL_fits_257 rfl ?_
        refine r_istore (pc := 258) (lv' := [(6, _), (5, _), (0, _), (2, _)]) hc dL_fits_258 (by decide) rfl ?_
        exact o_V.sub (t_L_fits_260  hc hr oF _ _ _ _ hok hq) [2, 3, 1, 0] rfl
      · have hok := hok.2 c247
        have hq := o_qn hq c247
        refine r_iconst (pc := 250) (v := 1) hc dL_fits_250 rfl ?_
        refine r_goto (pc := 251) (tgt := 255) hc dL_fits_251 (by decide) ?_
        refine r_istore (pc := 255) (lv' := [(5, _), (0, _), (2, _)]) hc dL_fits_255 (by decide) rfl ?_
        refine r_iconst (pc := 257) (v := 0) hc dL_fits_257 rfl ?_
        refine r_istore (pc := 258) (lv' := [(6, _), (5, _), (0, _), (2, _)]) hc dL_fits_258 (by decide) rfl ?_
        exact o_V.sub (t_L_fits_260  hc hr oF _ _ _ _ hok hq) [2, 3, 1, 0] rfl
set_option maxHeartbeats 4000000 in
set_option maxRecDepth 100000 in
theorem t_L_fits_20 {p : Program} {l : Launch} {e : Env} {s : State} {m : MethodId} {args : Array Value} {below : List Frame} {meth : Method} {c : Code} {G : Gt} {post : Int32 → Sg → Prop}   (hc : o_Cx p s m args meth c G cL_fits yL_fits.cls 11) (hr : meth.sig.returnType = (some .boolean)) : ∀ (n : Nat) (x1 : Int32) (x2 : Int32) (x3 : Int32) (x5 : Int32) (σ : Sg) (hok : ok_L_fits_20  n x1 x2 x3 x5 σ) (hq : ∀ q : Int32 × Sg, q = f_L_fits_20  n x1 x2 x3 x5 σ → post q.1 q.2), o_V p l e { frames := 7, cells := 0, slots := 0, locals := 166 } s m args below meth c (MQ below (va_Qi post (fun σ' t => o_W G σ' t.heap) (o_A G)) args s 0 0 (o_A G)) G 0 0 11 σ 20 [(0, .ref (gAd G 0)), (1, .int x1), (2, .int x2), (3, .int x3), (5, .int x5)] [] := by
  intro n
  induction n with
  | zero =>
    intro x1 x2 x3 x5 σ hok hq
    exact hok.elim
  | succ n ih =>
    intro x1 x2 x3 x5 σ hok hq
    refine r_iload (pc := 20) hc 4 dL_fits_20 rfl ?_
    refine r_bipush (pc := 22) (v := 24) hc dL_fits_22 (by decide) ?_
    refine r_icmp_ge (pc := 24) (tgt := 60) hc dL_fits_24 (by decide) (fun c24 => ?_) (fun c24 => ?_)
    · have hok := hok.1 c24
      have hq := o_qp hq c24
      refine r_iload_n (pc := 60) hc 1 dL_fits_60 rfl rfl ?_
      refine r_if_lt (pc := 61) (tgt := 254) hc dL_fits_61 (by decide) (fun c61 => ?_) (fun c61 => ?_)
      · have hok := hok.1 c61
        have hq := o_qp hq c61
        refine r_iconst (pc := 254) (v := 0) hc dL_fits_254 rfl ?_
        refine r_istore (pc := 255) (lv' := [(5, _), (0, _), (1, _), (2, _), (3, _)]) hc dL_fits_255 (by decide) rfl ?_
        refine r_iconst (pc := 257) (v := 0) hc dL_fits_257 rfl ?_
        refine r_istore (pc := 258) (lv' := [(6, _), (5, _), (0, _), (1, _), (2, _), (3, _)]) hc dL_fits_258 (by decide) rfl ?_
        exact o_V.sub (t_L_fits_260  hc hr oF _ _ _ _ hok hq) [2, 4, 1, 0] rfl
      · have hok := hok.2 c61
        have hq := o_qn hq c61
        refine r_iload_n (pc := 64) hc 1 dL_fits_64 rfl rfl ?_
        refine r_ldc (pc := 65) (v := 65280) hc kK_L_91 dL_fits_65 ?_
        refine r_icmp_ge (pc := 67) (tgt := 254) hc dL_fits_67 (by decide) (fun c67 => ?_) (fun c67 => ?_)
        · have hok := hok.1 c67
          have hq := o_qp hq c67
          refine r_iconst (pc := 254) (v := 0) hc dL_fits_254 rfl ?_
          refine r_istore (pc := 255) (lv' := [(5, _), (0, _), (1, _), (2, _), (3, _)]) hc dL_fits_255 (by decide) rfl ?_
          refine r_iconst (pc := 257) (v := 0) hc dL_fits_257 rfl ?_
          refine r_istore (pc := 258) (lv' := [(6, _), (5, _), (0, _), (1, _), (2, _), (3, _)]) hc dL_fits_258 (by decide) rfl ?_
          exact o_V.sub (t_L_fits_260  hc hr oF _ _ _ _ hok hq) [2, 4, 1, 0] rfl
        · have hok := hok.2 c67
          have hq := o_qn hq c67
          refine r_iload_n (pc := 70) hc 2 dL_fits_70 rfl rfl ?_
          refine r_iload_n (pc := 71) hc 1 dL_fits_71 rfl rfl ?_
          refine r_sipush (pc := 72) (v := 4080) hc dL_fits_72 (by decide) ?_
          refine r_irem (pc := 75) hc dL_fits_75 (by decide) ?_
          refine r_icmp_ne (pc := 76) (tgt := 254) hc dL_fits_76 (by decide) (fun c76 => ?_) (fun c76 => ?_)
          · have hok := hok.2 c76
            have hq := o_qn hq c76
            refine r_iconst (pc := 254) (v := 0) hc dL_fits_254 rfl ?_
            refine r_istore (pc := 255) (lv' := [(5, _), (0, _), (1, _), (2, _), (3, _)]) hc dL_fits_255 (by decide) rfl ?_
            refine r_iconst (pc := 257) (v := 0) hc dL_fits_257 rfl ?_
            refine r_istore (pc := 258) (lv' := [(6, _), (5, _), (0, _), (1, _), (2, _), (3, _)]) hc dL_fits_258 (by decide) rfl ?_
            exact o_V.sub (t_L_fits_260  hc hr oF _ _ _ _ hok hq) [2, 4, 1, 0] rfl
          · have hok := hok.1 c76
            have hq := o_qp hq c76
            refine r_aload_n (pc := 79) hc 0 dL_fits_79 rfl rfl ?_
            refine r_iconst (pc := 80) (v := 2) hc dL_fits_80 rfl ?_
            obtain ⟨hs1, hok⟩ := hok
            refine r_callV_i (pc := 81) (as := [.int _]) hc (c_X5_count l _ hs1) kk5 (o_lt hc (by decide)) rfl mV_X5_count kM_L_19 ⟨Nat.le_of_ble_eq_true rfl, Nat.le_of_ble_eq_true rfl⟩ ⟨Nat.le_of_ble_eq_true rfl, Nat.le_of_ble_eq_true rfl⟩ rfl rfl (Nat.le_of_ble_eq_true rfl) dL_fits_81 (fun r σ' h => ?_)
            obtain ⟨rfl, rfl⟩ := h
            refine r_if_lt (pc := 84) (tgt := 254) hc dL_fits_84 (by decide) (fun c84 => ?_) (fun c84 => ?_)
            · have hok := hok.1 c84
              have hq := o_qp hq c84
              refine r_iconst (pc := 254) (v := 0) hc dL_fits_254 rfl ?_
              refine r_istore (pc := 255) (lv' := [(5, _), (0, _), (1, _), (2, _), (3, _)]) hc dL_fits_255 (by decide) rfl ?_
              refine r_iconst (pc := 257) (v := 0) hc dL_fits_257 rfl ?_
              refine r_istore (pc := 258) (lv' := [(6, _), (5, _), (0, _), (1, _), (2, _), (3, _)]) hc dL_fits_258 (by decide) rfl ?_
              exact o_V.sub (t_L_fits_260  hc hr oF _ _ _ _ hok hq) [2, 4, 1, 0] rfl
            · have hok := hok.2 c84
              have hq := o_qn hq c84
              refine r_aload_n (pc := 87) hc 0 dL_fits_87 rfl rfl ?_
              refine r_iconst (pc := 88) (v := 2) hc dL_fits_88 rfl ?_
              obtain ⟨hs2, hok⟩ := hok
              refine r_callV_i (pc := 89) (as := [.int _]) hc (c_X5_count l _ hs2) kk5 (o_lt hc (by decide)) rfl mV_X5_count kM_L_19 ⟨Nat.le_of_ble_eq_true rfl, Nat.le_of_ble_eq_true rfl⟩ ⟨Nat.le_of_ble_eq_true rfl, Nat.le_of_ble_eq_true rfl⟩ rfl rfl (Nat.le_of_ble_eq_true rfl) dL_fits_89 (fun r σ' h => ?_)
              obtain ⟨rfl, rfl⟩ := h
              refine r_bipush (pc := 92) (v := 64) hc dL_fits_92 (by decide) ?_
              refine r_icmp_ge (pc := 94) (tgt := 254) hc dL_fits_94 (by decide) (fun c94 => ?_) (fun c94 => ?_)
              · have hok := hok.1 c94
                have hq := o_qp hq c94
                refine r_iconst (pc := 254) (v := 0) hc dL_fits_254 rfl ?_
                refine r_istore (pc := 255) (lv' := [(5, _), (0, _), (1, _), (2, _), (3, _)]) hc dL_fits_255 (by decide) rfl ?_
                refine r_iconst (pc := 257) (v := 0) hc dL_fits_257 rfl ?_
                refine r_istore (pc := 258) (lv' := [(6, _), (5, _), (0, _), (1, _), (2, _), (3, _)]) hc dL_fits_258 (by decide) rfl ?_
                exact o_V.sub (t_L_fits_260  hc hr oF _ _ _ _ hok hq) [2, 4, 1, 0] rfl
              · have hok := hok.2 c94
                have hq := o_qn hq c94
                refine r_aload_n (pc := 97) hc 0 dL_fits_97 rfl rfl ?_
                refine r_iconst (pc := 98) (v := 4) hc dL_fits_98 rfl ?_
                obtain ⟨hs3, hok⟩ := hok
                refine r_callV_i (pc := 99) (as := [.int _]) hc (c_X5_count l _ hs3) kk5 (o_lt hc (by decide)) rfl mV_X5_count kM_L_19 ⟨Nat.le_of_ble_eq_true rfl, Nat.le_of_ble_eq_true rfl⟩ ⟨Nat.le_of_ble_eq_true rfl, Nat.le_of_ble_eq_true rfl⟩ rfl rfl (Nat.le_of_ble_eq_true rfl) dL_fits_99 (fun r σ' h => ?_)
                obtain ⟨rfl, rfl⟩ := h
                refine r_if_lt (pc := 102) (tgt := 254) hc dL_fits_102 (by decide) (fun c102 => ?_) (fun c102 => ?_)
                · have hok := hok.1 c102
                  have hq := o_qp hq c102
                  refine r_iconst (pc := 254) (v := 0) hc dL_fits_254 rfl ?_
                  refine r_istore (pc := 255) (lv' := [(5, _), (0, _), (1, _), (2, _), (3, _)]) hc dL_fits_255 (by decide) rfl ?_
                  refine r_iconst (pc := 257) (v := 0) hc dL_fits_257 rfl ?_
                  refine r_istore (pc := 258) (lv' := [(6, _), (5, _), (0, _), (1, _), (2, _), (3, _)]) hc dL_fits_258 (by decide) rfl ?_
                  exact o_V.sub (t_L_fits_260  hc hr oF _ _ _ _ hok hq) [2, 4, 1, 0] rfl
                · have hok := hok.2 c102
                  have hq := o_qn hq c102
                  refine r_aload_n (pc := 105) hc 0 dL_fits_105 rfl rfl ?_
                  refine r_iconst (pc := 106) (v := 4) hc dL_fits_106 rfl ?_
                  obtain ⟨hs4, hok⟩ := hok
                  refine r_callV_i (pc := 107) (as := [.int _]) hc (c_X5_count l _ hs4) kk5 (o_lt hc (by decide)) rfl mV_X5_count kM_L_19 ⟨Nat.le_of_ble_eq_true rfl, Nat.le_of_ble_eq_true rfl⟩ ⟨Nat.le_of_ble_eq_true rfl, Nat.le_of_ble_eq_true rfl⟩ rfl rfl (Nat.le_of_ble_eq_true rfl) dL_fits_107 (fun r σ' h => ?_)
                  obtain ⟨rfl, rfl⟩ := h
                  refine r_sipush (pc := 110) (v := 1000) hc dL_fits_110 (by decide) ?_
                  refine r_icmp_ge (pc := 113) (tgt := 254) hc dL_fits_113 (by decide) (fun c113 => ?_) (fun c113 => ?_)
                  · have hok := hok.1 c113
                    have hq := o_qp hq c113
                    refine r_iconst (pc := 254) (v := 0) hc dL_fits_254 rfl ?_
                    refine r_istore (pc := 255) (lv' := [(5, _), (0, _), (1, _), (2, _), (3, _)]) hc dL_fits_255 (by decide) rfl ?_
                    refine r_iconst (pc := 257) (v := 0) hc dL_fits_257 rfl ?_
                    refine r_istore (pc := 258) (lv' := [(6, _), (5, _), (0, _), (1, _), (2, _), (3, _)]) hc dL_fits_258 (by decide) rfl ?_
                    exact o_V.sub (t_L_fits_260  hc hr oF _ _ _ _ hok hq) [2, 4, 1, 0] rfl
                  · have hok := hok.2 c113
                    have hq := o_qn hq c113
                    refine r_aload_n (pc := 116) hc 0 dL_fits_116 rfl rfl ?_
                    refine r_iconst (pc := 117) (v := 5) hc dL_fits_117 rfl ?_
                    obtain ⟨hs5, hok⟩ := hok
                    refine r_callV_i (pc := 118) (as := [.int _]) hc (c_X5_count l _ hs5) kk5 (o_lt hc (by decide)) rfl mV_X5_count kM_L_19 ⟨Nat.le_of_ble_eq_true rfl, Nat.le_of_ble_eq_true rfl⟩ ⟨Nat.le_of_ble_eq_true rfl, Nat.le_of_ble_eq_true rfl⟩ rfl rfl (Nat.le_of_ble_eq_true rfl) dL_fits_118 (fun r σ' h => ?_)
                    obtain ⟨rfl, rfl⟩ := h
                    refine r_if_lt (pc := 121) (tgt := 254) hc dL_fits_121 (by decide) (fun c121 => ?_) (fun c121 => ?_)
                    · have hok := hok.1 c121
                      have hq := o_qp hq c121
                      refine r_iconst (pc := 254) (v := 0) hc dL_fits_254 rfl ?_
                      refine r_istore (pc := 255) (lv' := [(5, _), (0, _), (1, _), (2, _), (3, _)]) hc dL_fits_255 (by decide) rfl ?_
                      refine r_iconst (pc := 257) (v := 0) hc dL_fits_257 rfl ?_
                      refine r_istore (pc := 258) (lv' := [(6, _), (5, _), (0, _), (1, _), (2, _), (3, _)]) hc dL_fits_258 (by decide) rfl ?_
                      exact o_V.sub (t_L_fits_260  hc hr oF _ _ _ _ hok hq) [2, 4, 1, 0] rfl
                    · have hok := hok.2 c121
                      have hq := o_qn hq c121
                      refine r_aload_n (pc := 124) hc 0 dL_fits_124 rfl rfl ?_
                      refine r_iconst (pc := 125) (v := 5) hc dL_fits_125 rfl ?_
                      obtain ⟨hs6, hok⟩ := hok
                      refine r_callV_i (pc := 126) (as := [.int _]) hc (c_X5_count l _ hs6) kk5 (o_lt hc (by decide)) rfl mV_X5_count kM_L_19 ⟨Nat.le_of_ble_eq_true rfl, Nat.le_of_ble_eq_true rfl⟩ ⟨Nat.le_of_ble_eq_true rfl, Nat.le_of_ble_eq_true rfl⟩ rfl rfl (Nat.le_of_ble_eq_true rfl) dL_fits_126 (fun r σ' h => ?_)
                      obtain ⟨rfl, rfl⟩ := h
                      refine r_bipush (pc := 129) (v := 100) hc dL_fits_129 (by decide) ?_
                      refine r_icmp_ge (pc := 131) (tgt := 254) hc dL_fits_131 (by decide) (fun c131 => ?_) (fun c131 => ?_)
                      · have hok := hok.1 c131
                        have hq := o_qp hq c131
                        refine r_iconst (pc := 254) (v := 0) hc dL_fits_254 rfl ?_
                        refine r_istore (pc := 255) (lv' := [(5, _), (0, _), (1, _), (2, _), (3, _)]) hc dL_fits_255 (by decide) rfl ?_
                        refine r_iconst (pc := 257) (v := 0) hc dL_fits_257 rfl ?_
                        refine r_istore (pc := 258) (lv' := [(6, _), (5, _), (0, _), (1, _), (2, _), (3, _)]) hc dL_fits_258 (by decide) rfl ?_
                        exact o_V.sub (t_L_fits_260  hc hr oF _ _ _ _ hok hq) [2, 4, 1, 0] rfl
                      · have hok := hok.2 c131
                        have hq := o_qn hq c131
                        refine r_aload_n (pc := 134) hc 0 dL_fits_134 rfl rfl ?_
                        refine r_bipush (pc := 135) (v := 8) hc dL_fits_135 (by decide) ?_
                        obtain ⟨hs7, hok⟩ := hok
                        refine r_callV_i (pc := 137) (as := [.int _]) hc (c_X5_count l _ hs7) kk5 (o_lt hc (by decide)) rfl mV_X5_count kM_L_19 ⟨Nat.le_of_ble_eq_true rfl, Nat.le_of_ble_eq_true rfl⟩ ⟨Nat.le_of_ble_eq_true rfl, Nat.le_of_ble_eq_true rfl⟩ rfl rfl (Nat.le_of_ble_eq_true rfl) dL_fits_137 (fun r σ' h => ?_)
                        obtain ⟨rfl, rfl⟩ := h
                        refine r_iload_n (pc := 140) hc 2 dL_fits_140 rfl rfl ?_
                        refine r_bipush (pc := 141) (v := 64) hc dL_fits_141 (by decide) ?_
                        refine r_imul (pc := 143) hc dL_fits_143 ?_
                        refine r_sipush (pc := 144) (v := 4080) hc dL_fits_144 (by decide) ?_
                        refine r_idiv (pc := 147) hc dL_fits_147 (by decide) ?_
                        refine r_aload_n (pc := 148) hc 0 dL_fits_148 rfl rfl ?_
                        refine r_bipush (pc := 149) (v := 23) hc dL_fits_149 (by decide) ?_
                        obtain ⟨hs8, hok⟩ := hok
                        refine r_callV_i (pc := 151) (as := [.int _]) hc (c_X5_count l _ hs8) kk5 (o_lt hc (by decide)) rfl mV_X5_count kM_L_19 ⟨Nat.le_of_ble_eq_true rfl, Nat.le_of_ble_eq_true rfl⟩ ⟨Nat.le_of_ble_eq_true rfl, Nat.le_of_ble_eq_true rfl⟩ rfl rfl (Nat.le_of_ble_eq_true rfl) dL_fits_151 (fun r σ' h => ?_)
                        obtain ⟨rfl, rfl⟩ := h
                        refine r_iadd (pc := 154) hc dL_fits_154 ?_
                        refine r_bipush (pc := 155) (v := 100) hc dL_fits_155 (by decide) ?_
                        refine r_isub (pc := 157) hc dL_fits_157 ?_
                        refine r_bipush (pc := 158) (v := 64) hc dL_fits_158 (by decide) ?_
                        obtain ⟨hs9, hok⟩ := hok
                        refine r_callS_i (pc := 160) (as := [.int _, .int _]) hc (c_L_rest l _ hs9) mS_L_rest kM_L_9 ⟨Nat.le_of_ble_eq_true rfl, Nat.le_of_ble_eq_true rfl⟩ ⟨Nat.le_of_ble_eq_true rfl, Nat.le_of_ble_eq_true rfl⟩ rfl rfl (Nat.le_of_ble_eq_true rfl) dL_fits_160 (fun r σ' h => ?_)
                        obtain ⟨rfl, rfl⟩ := h
                        refine r_icmp_ne (pc := 163) (tgt := 254) hc dL_fits_163 (by decide) (fun c163 => ?_) (fun c163 => ?_)
                        · have hok := hok.2 c163
                          have hq := o_qn hq c163
                          refine r_iconst (pc := 254) (v := 0) hc dL_fits_254 rfl ?_
                          refine r_istore (pc := 255) (lv' := [(5, _), (0, _), (1, _), (2, _), (3, _)]) hc dL_fits_255 (by decide) rfl ?_
                          refine r_iconst (pc := 257) (v := 0) hc dL_fits_257 rfl ?_
                          refine r_istore (pc := 258) (lv' := [(6, _), (5, _), (0, _), (1, _), (2, _), (3, _)]) hc dL_fits_258 (by decide) rfl ?_
                          exact o_V.sub (t_L_fits_260  hc hr oF _ _ _ _ hok hq) [2, 4, 1, 0] rfl
                        · have hok := hok.1 c163
                          have hq := o_qp hq c163
                          refine r_aload_n (pc := 166) hc 0 dL_fits_166 rfl rfl ?_
                          refine r_bipush (pc := 167) (v := 9) hc dL_fits_167 (by decide) ?_
                          obtain ⟨hs11, hok⟩ := hok
                          refine r_callV_i (pc := 169) (as := [.int _]) hc (c_X5_count l _ hs11) kk5 (o_lt hc (by decide)) rfl mV_X5_count kM_L_19 ⟨Nat.le_of_ble_eq_true rfl, Nat.le_of_ble_eq_true rfl⟩ ⟨Nat.le_of_ble_eq_true rfl, Nat.le_of_ble_eq_true rfl⟩ rfl rfl (Nat.le_of_ble_eq_true rfl) dL_fits_169 (fun r σ' h => ?_)
                          obtain ⟨rfl, rfl⟩ := h
                          refine r_iload_n (pc := 172) hc 3 dL_fits_172 rfl rfl ?_
                          refine r_icmp_ne (pc := 173) (tgt := 254) hc dL_fits_173 (by decide) (fun c173 => ?_) (fun c173 => ?_)
                          · have hok := hok.2 c173
                            have hq := o_qn hq c173
                            refine r_iconst (pc := 254) (v := 0) hc dL_fits_254 rfl ?_
                            refine r_istore (pc := 255) (lv' := [(5, _), (0, _), (1, _), (2, _), (3, _)]) hc dL_fits_255 (by decide) rfl ?_
                            refine r_iconst (pc := 257) (v := 0) hc dL_fits_257 rfl ?_
                            refine r_istore (pc := 258) (lv' := [(6, _), (5, _), (0, _), (1, _), (2, _), (3, _)]) hc dL_fits_258 (by decide) rfl ?_
                            exact o_V.sub (t_L_fits_260  hc hr oF _ _ _ _ hok hq) [2, 4, 1, 0] rfl
                          · have hok := hok.1 c173
                            have hq := o_qp hq c173
                            refine r_aload_n (pc := 176) hc 0 dL_fits_176 rfl rfl ?_
                            refine r_bipush (pc := 177) (v := 6) hc dL_fits_177 (by decide) ?_
                            obtain ⟨hs12, hok⟩ := hok
                            refine r_callV_i (pc := 179) (as := [.int _]) hc (c_X5_count l _ hs12) kk5 (o_lt hc (by decide)) rfl mV_X5_count kM_L_19 ⟨Nat.le_of_ble_eq_true rfl, Nat.le_of_ble_eq_true rfl⟩ ⟨Nat.le_of_ble_eq_true rfl, Nat.le_of_ble_eq_true rfl⟩ rfl rfl (Nat.le_of_ble_eq_true rfl) dL_fits_179 (fun r σ' h => ?_)
                            obtain ⟨rfl, rfl⟩ := h
                            refine r_bipush (pc := 182) (v := (-4)) hc dL_fits_182 (by decide) ?_
                            refine r_icmp_lt (pc := 184) (tgt := 254) hc dL_fits_184 (by decide) (fun c184 => ?_) (fun c184 => ?_)
                            · have hok := hok.1 c184
                              have hq := o_qp hq c184
                              refine r_iconst (pc := 254) (v := 0) hc dL_fits_254 rfl ?_
                              refine r_istore (pc := 255) (lv' := [(5, _), (0, _), (1, _), (2, _), (3, _)]) hc dL_fits_255 (by decide) rfl ?_
                              refine r_iconst (pc := 257) (v := 0) hc dL_fits_257 rfl ?_
                              refine r_istore (pc := 258) (lv' := [(6, _), (5, _), (0, _), (1, _), (2, _), (3, _)]) hc dL_fits_258 (by decide) rfl ?_
                              exact o_V.sub (t_L_fits_260  hc hr oF _ _ _ _ hok hq) [2, 4, 1, 0] rfl
                            · have hok := hok.2 c184
                              have hq := o_qn hq c184
                              refine r_aload_n (pc := 187) hc 0 dL_fits_187 rfl rfl ?_
                              refine r_bipush (pc := 188) (v := 6) hc dL_fits_188 (by decide) ?_
                              obtain ⟨hs13, hok⟩ := hok
                              refine r_callV_i (pc := 190) (as := [.int _]) hc (c_X5_count l _ hs13) kk5 (o_lt hc (by decide)) rfl mV_X5_count kM_L_19 ⟨Nat.le_of_ble_eq_true rfl, Nat.le_of_ble_eq_true rfl⟩ ⟨Nat.le_of_ble_eq_true rfl, Nat.le_of_ble_eq_true rfl⟩ rfl rfl (Nat.le_of_ble_eq_true rfl) dL_fits_190 (fun r σ' h => ?_)
                              obtain ⟨rfl, rfl⟩ := h
                              refine r_ldc (pc := 193) (v := 65280) hc kK_L_91 dL_fits_193 ?_
                              refine r_icmp_ge (pc := 195) (tgt := 254) hc dL_fits_195 (by decide) (fun c195 => ?_) (fun c195 => ?_)
                              · have hok := hok.1 c195
                                have hq := o_qp hq c195
                                refine r_iconst (pc := 254) (v := 0) hc dL_fits_254 rfl ?_
                                refine r_istore (pc := 255) (lv' := [(5, _), (0, _), (1, _), (2, _), (3, _)]) hc dL_fits_255 (by decide) rfl ?_
                                refine r_iconst (pc := 257) (v := 0) hc dL_fits_257 rfl ?_
                                refine r_istore (pc := 258) (lv' := [(6, _), (5, _), (0, _), (1, _), (2, _), (3, _)]) hc dL_fits_258 (by decide) rfl ?_
                                exact o_V.sub (t_L_fits_260  hc hr oF _ _ _ _ hok hq) [2, 4, 1, 0] rfl
                              · have hok := hok.2 c195
                                have hq := o_qn hq c195
                                refine r_aload_n (pc := 198) hc 0 dL_fits_198 rfl rfl ?_
                                obtain ⟨hs14, hok⟩ := hok
                                refine r_callV_i (pc := 199) (as := []) hc (c_X5_apart l _ hs14) kk5 (o_lt hc (by decide)) rfl mV_X5_apart kM_L_92 ⟨Nat.le_of_ble_eq_true rfl, Nat.le_of_ble_eq_true rfl⟩ ⟨Nat.le_of_ble_eq_true rfl, Nat.le_of_ble_eq_true rfl⟩ rfl rfl (Nat.le_of_ble_eq_true rfl) dL_fits_199 (fun r σ' h => ?_)
                                obtain ⟨rfl, rfl⟩ := h
                                refine r_aload_n (pc := 202) hc 0 dL_fits_202 rfl rfl ?_
                                refine r_bipush (pc := 203) (v := 6) hc dL_fits_203 (by decide) ?_
                                obtain ⟨hs15, hok⟩ := hok
                                refine r_callV_i (pc := 205) (as := [.int _]) hc (c_X5_count l _ hs15) kk5 (o_lt hc (by decide)) rfl mV_X5_count kM_L_19 ⟨Nat.le_of_ble_eq_true rfl, Nat.le_of_ble_eq_true rfl⟩ ⟨Nat.le_of_ble_eq_true rfl, Nat.le_of_ble_eq_true rfl⟩ rfl rfl (Nat.le_of_ble_eq_true rfl) dL_fits_205 (fun r σ' h => ?_)
                                obtain ⟨rfl, rfl⟩ := h
                                refine r_bipush (pc := 208) (v := (-4)) hc dL_fits_208 (by decide) ?_
                                refine r_icmp_ne (pc := 210) (tgt := 218) hc dL_fits_210 (by decide) (fun c210 => ?_) (fun c210 => ?_)
                                · have hok := hok.2 c210
                                  have hq := o_qn hq c210
                                  refine r_aload_n (pc := 218) hc 0 dL_fits_218 rfl rfl ?_
                                  refine r_bipush (pc := 219) (v := 6) hc dL_fits_219 (by decide) ?_
                                  obtain ⟨hs16, hok⟩ := hok
                                  refine r_callV_i (pc := 221) (as := [.int _]) hc (c_X5_count l _ hs16) kk5 (o_lt hc (by decide)) rfl mV_X5_count kM_L_19 ⟨Nat.le_of_ble_eq_true rfl, Nat.le_of_ble_eq_true rfl⟩ ⟨Nat.le_of_ble_eq_true rfl, Nat.le_of_ble_eq_true rfl⟩ rfl rfl (Nat.le_of_ble_eq_true rfl) dL_fits_221 (fun r σ' h => ?_)
                                  obtain ⟨rfl, rfl⟩ := h
                                  refine r_iload_n (pc := 224) hc 1 dL_fits_224 rfl rfl ?_
                                  refine r_isub (pc := 225) hc dL_fits_225 ?_
                                  refine r_ldc (pc := 226) (v := 65280) hc kK_L_91 dL_fits_226 ?_
                                  obtain ⟨hs17, hok⟩ := hok
                                  refine r_callS_i (pc := 228) (as := [.int _, .int _]) hc (c_L_near l _ hs17) mS_L_near kM_L_95 ⟨Nat.le_of_ble_eq_true rfl, Nat.le_of_ble_eq_true rfl⟩ ⟨Nat.le_of_ble_eq_true rfl, Nat.le_of_ble_eq_true rfl⟩ rfl rfl (Nat.le_of_ble_eq_true rfl) dL_fits_228 (fun r σ' h => ?_)
                                  obtain ⟨rfl, rfl⟩ := h
                                  exact o_V.sub (t_L_fits_231  hc hr hok hq) [0, 2] rfl
                                · have hok := hok.1 c210
                                  have hq := o_qp hq c210
                                  refine r_bipush (pc := 213) (v := (-4)) hc dL_fits_213 (by decide) ?_
                                  refine r_goto (pc := 215) (tgt := 231) hc dL_fits_215 (by decide) ?_
                                  exact o_V.sub (t_L_fits_231  hc hr hok hq) [0, 2] rfl
    · have hok := hok.2 c24
      have hq := o_qn hq c24
      refine r_iload_n (pc := 27) hc 3 dL_fits_27 rfl rfl ?_
      refine r_aload_n (pc := 28) hc 0 dL_fits_28 rfl rfl ?_
      refine r_iload (pc := 29) hc 4 dL_fits_29 rfl ?_
      refine r_bipush (pc := 31) (v := 8) hc dL_fits_31 (by decide) ?_
      refine r_idiv (pc := 33) hc dL_fits_33 (by decide) ?_
      refine r_iload (pc := 34) hc 4 dL_fits_34 rfl ?_
      refine r_bipush (pc := 36) (v := 8) hc dL_fits_36 (by decide) ?_
      refine r_irem (pc := 38) hc dL_fits_38 (by decide) ?_
      obtain ⟨hs18, hok⟩ := hok
      refine r_callV_i (pc := 39) (as := [.int _, .int _]) hc (c_X5_correction l _ hs18) kk5 (o_lt hc (by decide)) rfl mV_X5_correction kM_L_25 ⟨Nat.le_of_ble_eq_true rfl, Nat.le_of_ble_eq_true rfl⟩ ⟨Nat.le_of_ble_eq_true rfl, Nat.le_of_ble_eq_true rfl⟩ rfl rfl (Nat.le_of_ble_eq_true rfl) dL_fits_39 (fun r σ' h => ?_)
      obtain ⟨rfl, rfl⟩ := h
      refine r_bipush (pc := 42) (v := 100) hc dL_fits_42 (by decide) ?_
      refine r_icmp_ne (pc := 44) (tgt := 51) hc dL_fits_44 (by decide) (fun c44 => ?_) (fun c44 => ?_)
      · have hok := hok.2 c44
        have hq := o_qn hq c44
        refine r_iconst (pc := 51) (v := 1) hc dL_fits_51 rfl ?_
        refine r_iadd (pc := 52) hc dL_fits_52 ?_
        refine r_istore_n (pc := 53) (lv' := [(3, _), (0, _), (1, _), (2, _), (5, _)]) hc dL_fits_53 rfl (by decide) rfl ?_
        refine r_iinc (pc := 54) (q := 4) (v := _ + 1) (lv' := [(5, _), (3, _), (0, _), (1, _), (2, _)]) hc dL_fits_54 rfl rfl (by decide) rfl ?_
        refine r_goto (pc := 57) (tgt := 20) hc dL_fits_57 (by decide) ?_
        exact o_V.sub (ih _ _ _ _ _ hok hq) [2, 3, 4, 1, 0] rfl
      · have hok := hok.1 c44
        have hq := o_qp hq c44
        refine r_iconst (pc := 47) (v := 0) hc dL_fits_47 rfl ?_
        refine r_goto (pc := 48) (tgt := 52) hc dL_fits_48 (by decide) ?_
        refine r_iadd (pc := 52) hc dL_fits_52 ?_
        refine r_istore_n (pc := 53) (lv' := [(3, _), (0, _), (1, _), (2, _), (5, _)]) hc dL_fits_53 rfl (by decide) rfl ?_
        refine r_iinc (pc := 54) (q := 4) (v := _ + 1) (lv' := [(5, _), (3, _), (0, _), (1, _), (2, _)]) hc dL_fits_54 rfl rfl (by decide) rfl ?_
        refine r_goto (pc := 57) (tgt := 20) hc dL_fits_57 (by decide) ?_
        exact o_V.sub (ih _ _ _ _ _ hok hq) [2, 3, 4, 1, 0] rfl
set_option maxHeartbeats 4000000 in
set_option maxRecDepth 100000 in
theorem c_L_fits (l : Launch) (G : Gt)   {σ : Sg} (hok : ok_L_fits  σ) : o_Ci l G yL_fits cL_fits 11 (some .boolean) 7 166 [.ref (gAd G 0)] σ (fun r σ' => r = (f_L_fits  σ).1 ∧ σ' = (f_L_fits  σ).2) := by
  refine o_Ci.of (by decide +kernel) (Nat.le_of_ble_eq_true rfl) ?_
  intro p e s m args below meth c hc hr
  have hq : ∀ q : Int32 × Sg, q = f_L_fits  σ → (fun r σ' => r = (f_L_fits  σ).1 ∧ σ' = (f_L_fits  σ).2) q.1 q.2 := fun q h => ⟨congrArg Prod.fst h, congrArg Prod.snd h⟩
  refine r_aload_n (pc := 0) hc 0 dL_fits_0 rfl rfl ?_
  refine r_iconst (pc := 1) (v := 0) hc dL_fits_1 rfl ?_
  obtain ⟨hs1, hok⟩ := hok
  refine r_callV_i (pc := 2) (as := [.int _]) hc (c_X5_count l _ hs1) kk5 (o_lt hc (by decide)) rfl mV_X5_count kM_L_19 ⟨Nat.le_of_ble_eq_true rfl, Nat.le_of_ble_eq_true rfl⟩ ⟨Nat.le_of_ble_eq_true rfl, Nat.le_of_ble_eq_true rfl⟩ rfl rfl (Nat.le_of_ble_eq_true rfl) dL_fits_2 (fun r σ' h => ?_)
  obtain ⟨rfl, rfl⟩ := h
  refine r_istore_n (pc := 5) (lv' := [(1, _), (0, _)]) hc dL_fits_5 rfl (by decide) rfl ?_
  refine r_aload_n (pc := 6) hc 1 dL_fits_6 rfl rfl ?_
  refine r_iconst (pc := 7) (v := 1) hc dL_fits_7 rfl ?_
  obtain ⟨hs2, hok⟩ := hok
  refine r_callV_i (pc := 8) (as := [.int _]) hc (c_X5_count l _ hs2) kk5 (o_lt hc (by decide)) rfl mV_X5_count kM_L_19 ⟨Nat.le_of_ble_eq_true rfl, Nat.le_of_ble_eq_true rfl⟩ ⟨Nat.le_of_ble_eq_true rfl, Nat.le_of_ble_eq_true rfl⟩ rfl rfl (Nat.le_of_ble_eq_true rfl) dL_fits_8 (fun r σ' h => ?_)
  obtain ⟨rfl, rfl⟩ := h
  refine r_istore_n (pc := 11) (lv' := [(2, _), (1, _), (0, _)]) hc dL_fits_11 rfl (by decide) rfl ?_
  refine r_iconst (pc := 12) (v := 0) hc dL_fits_12 rfl ?_
  refine r_istore_n (pc := 13) (lv' := [(3, _), (2, _), (1, _), (0, _)]) hc dL_fits_13 rfl (by decide) rfl ?_
  refine r_iconst (pc := 14) (v := 0) hc dL_fits_14 rfl ?_
  refine r_istore (pc := 15) (lv' := [(4, _), (3, _), (2, _), (1, _), (0, _)]) hc dL_fits_15 (by decide) rfl ?_
  refine r_iconst (pc := 17) (v := 0) hc dL_fits_17 rfl ?_
  refine r_istore (pc := 18) (lv' := [(5, _), (4, _), (3, _), (2, _), (1, _), (0, _)]) hc dL_fits_18 (by decide) rfl ?_
  exact o_V.sub (t_L_fits_20  hc hr oF _ _ _ _ _ hok hq) [5, 4, 3, 2, 0] rfl
