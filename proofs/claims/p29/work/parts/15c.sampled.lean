set_option linter.all false
noncomputable def f_L_isSampled_378  (x1 : Int32) (x5 : Int32) (x12 : Int32) (y0 : Int32) (σ : Sg) : Int32 × Sg :=
  o_ite (y0 = 0) (
    (0, σ)) (
    o_ite (x1 = 0) (
      o_ite ((f_X5_count 6 σ) = x12) (
        o_ite (x5 = (-4)) (
          (1, σ)) (
          o_ite ((f_X5_count 22 σ) < (f_L_near (x12 - x5) 65280 σ)) (
            (0, σ)) (
            (1, σ)))) (
        (0, σ))) (
      o_ite ((f_X5_count 6 σ) = x5) (
        o_ite (x1 = 3) (
          (1, σ)) (
          o_ite ((f_L_near (x12 - x5) 65280 σ) ≤ (f_X5_count 22 σ)) (
            (0, σ)) (
            (1, σ)))) (
        (0, σ))))
def ok_L_isSampled_378  (x1 : Int32) (x5 : Int32) (x12 : Int32) (y0 : Int32) (σ : Sg) : Prop :=
  ((y0 = 0) →
    True) ∧ (¬ (y0 = 0) →
    ((x1 = 0) →
      (ok_X5_count 6 σ) ∧ ((((f_X5_count 6 σ) = x12) →
        ((x5 = (-4)) →
          True) ∧ (¬ (x5 = (-4)) →
          (ok_L_near (x12 - x5) 65280 σ) ∧ ((ok_X5_count 22 σ) ∧ ((((f_X5_count 22 σ) < (f_L_near (x12 - x5) 65280 σ)) →
            True) ∧ (¬ ((f_X5_count 22 σ) < (f_L_near (x12 - x5) 65280 σ)) →
            True))))) ∧ (¬ ((f_X5_count 6 σ) = x12) →
        True))) ∧ (¬ (x1 = 0) →
      (ok_X5_count 6 σ) ∧ ((((f_X5_count 6 σ) = x5) →
        ((x1 = 3) →
          True) ∧ (¬ (x1 = 3) →
          (ok_L_near (x12 - x5) 65280 σ) ∧ ((ok_X5_count 22 σ) ∧ ((((f_L_near (x12 - x5) 65280 σ) ≤ (f_X5_count 22 σ)) →
            True) ∧ (¬ ((f_L_near (x12 - x5) 65280 σ) ≤ (f_X5_count 22 σ)) →
            True))))) ∧ (¬ ((f_X5_count 6 σ) = x5) →
        True))))
noncomputable def f_L_isSampled_377  (x1 : Int32) (x5 : Int32) (x12 : Int32) (σ : Sg) : Int32 × Sg :=
  f_L_isSampled_378 x1 x5 x12 0 σ
def ok_L_isSampled_377  (x1 : Int32) (x5 : Int32) (x12 : Int32) (σ : Sg) : Prop :=
  ok_L_isSampled_378 x1 x5 x12 0 σ
noncomputable def f_L_isSampled_370  (x1 : Int32) (x5 : Int32) (x12 : Int32) (y0 : Int32) (y1 : Int32) (σ : Sg) : Int32 × Sg :=
  o_ite (y1 = y0) (
    f_L_isSampled_378 x1 x5 x12 1 σ) (
    f_L_isSampled_377 x1 x5 x12 σ)
def ok_L_isSampled_370  (x1 : Int32) (x5 : Int32) (x12 : Int32) (y0 : Int32) (y1 : Int32) (σ : Sg) : Prop :=
  ((y1 = y0) →
    ok_L_isSampled_378 x1 x5 x12 1 σ) ∧ (¬ (y1 = y0) →
    ok_L_isSampled_377 x1 x5 x12 σ)
noncomputable def f_L_isSampled_369  (x1 : Int32) (x5 : Int32) (x12 : Int32) (y0 : Int32) (σ : Sg) : Int32 × Sg :=
  f_L_isSampled_370 x1 x5 x12 0 y0 σ
def ok_L_isSampled_369  (x1 : Int32) (x5 : Int32) (x12 : Int32) (y0 : Int32) (σ : Sg) : Prop :=
  ok_L_isSampled_370 x1 x5 x12 0 y0 σ
noncomputable def f_L_isSampled_354  (x1 : Int32) (x5 : Int32) (x6 : Int32) (x8 : Int32) (x12 : Int32) (y0 : Int32) (σ : Sg) : Int32 × Sg :=
  o_ite (x8 = 0) (
    f_L_isSampled_369 x1 x5 x12 y0 σ) (
    o_ite (x6 ≤ 1) (
      f_L_isSampled_369 x1 x5 x12 y0 σ) (
      f_L_isSampled_370 x1 x5 x12 1 y0 σ))
def ok_L_isSampled_354  (x1 : Int32) (x5 : Int32) (x6 : Int32) (x8 : Int32) (x12 : Int32) (y0 : Int32) (σ : Sg) : Prop :=
  ((x8 = 0) →
    ok_L_isSampled_369 x1 x5 x12 y0 σ) ∧ (¬ (x8 = 0) →
    ((x6 ≤ 1) →
      ok_L_isSampled_369 x1 x5 x12 y0 σ) ∧ (¬ (x6 ≤ 1) →
      ok_L_isSampled_370 x1 x5 x12 1 y0 σ))
noncomputable def f_L_isSampled_341  (x1 : Int32) (x5 : Int32) (x6 : Int32) (x8 : Int32) (x12 : Int32) (y0 : Int32) (y1 : Int32) (σ : Sg) : Int32 × Sg :=
  o_ite (y1 = y0) (
    o_ite (x1 = 3) (
      f_L_isSampled_354 x1 x5 x6 x8 x12 1 σ) (
      f_L_isSampled_354 x1 x5 x6 x8 x12 0 σ)) (
    f_L_isSampled_377 x1 x5 x12 σ)
def ok_L_isSampled_341  (x1 : Int32) (x5 : Int32) (x6 : Int32) (x8 : Int32) (x12 : Int32) (y0 : Int32) (y1 : Int32) (σ : Sg) : Prop :=
  ((y1 = y0) →
    ((x1 = 3) →
      ok_L_isSampled_354 x1 x5 x6 x8 x12 1 σ) ∧ (¬ (x1 = 3) →
      ok_L_isSampled_354 x1 x5 x6 x8 x12 0 σ)) ∧ (¬ (y1 = y0) →
    ok_L_isSampled_377 x1 x5 x12 σ)
noncomputable def f_L_isSampled_301  (x1 : Int32) (x2 : Int32) (x5 : Int32) (x6 : Int32) (x8 : Int32) (x11 : Int32) (x12 : Int32) (y0 : Int32) (y1 : Int32) (y2 : Int32) (σ : Sg) : Int32 × Sg :=
  o_ite (y2 = (f_L_rest (y1 + y0) 64 σ)) (
    o_ite ((x11 - x11 / 4 * 4) = (x2 / 1020)) (
      o_ite (x8 = 0) (
        f_L_isSampled_341 x1 x5 x6 x8 x12 0 (f_X5_count 7 σ) σ) (
        f_L_isSampled_341 x1 x5 x6 x8 x12 (x6 + 1) (f_X5_count 7 σ) σ)) (
      f_L_isSampled_377 x1 x5 x12 σ)) (
    f_L_isSampled_377 x1 x5 x12 σ)
def ok_L_isSampled_301  (x1 : Int32) (x2 : Int32) (x5 : Int32) (x6 : Int32) (x8 : Int32) (x11 : Int32) (x12 : Int32) (y0 : Int32) (y1 : Int32) (y2 : Int32) (σ : Sg) : Prop :=
  (ok_L_rest (y1 + y0) 64 σ) ∧ (((y2 = (f_L_rest (y1 + y0) 64 σ)) →
    (((x11 - x11 / 4 * 4) = (x2 / 1020)) →
      (ok_X5_count 7 σ) ∧ (((x8 = 0) →
        ok_L_isSampled_341 x1 x5 x6 x8 x12 0 (f_X5_count 7 σ) σ) ∧ (¬ (x8 = 0) →
        ok_L_isSampled_341 x1 x5 x6 x8 x12 (x6 + 1) (f_X5_count 7 σ) σ))) ∧ (¬ ((x11 - x11 / 4 * 4) = (x2 / 1020)) →
      ok_L_isSampled_377 x1 x5 x12 σ)) ∧ (¬ (y2 = (f_L_rest (y1 + y0) 64 σ)) →
    ok_L_isSampled_377 x1 x5 x12 σ))
noncomputable def f_L_isSampled_212  (x4 : Int32) (x5 : Int32) (x6 : Int32) (x10 : Int32) (σ : Sg) : Int32 × Sg :=
  o_ite (x10 = 0) (
    (0, σ)) (
    o_ite ((f_X5_count 2 σ) = x4) (
      o_ite ((f_X5_count 6 σ) = x5) (
        o_ite ((f_X5_count 7 σ) = x6) (
          (1, σ)) (
          (0, σ))) (
        (0, σ))) (
      (0, σ)))
def ok_L_isSampled_212  (x4 : Int32) (x5 : Int32) (x6 : Int32) (x10 : Int32) (σ : Sg) : Prop :=
  ((x10 = 0) →
    True) ∧ (¬ (x10 = 0) →
    (ok_X5_count 2 σ) ∧ ((((f_X5_count 2 σ) = x4) →
      (ok_X5_count 6 σ) ∧ ((((f_X5_count 6 σ) = x5) →
        (ok_X5_count 7 σ) ∧ ((((f_X5_count 7 σ) = x6) →
          True) ∧ (¬ ((f_X5_count 7 σ) = x6) →
          True))) ∧ (¬ ((f_X5_count 6 σ) = x5) →
        True))) ∧ (¬ ((f_X5_count 2 σ) = x4) →
      True)))
noncomputable def f_L_isSampled_200  (x1 : Int32) (x2 : Int32) (x4 : Int32) (x5 : Int32) (x6 : Int32) (x7 : Int32) (x8 : Int32) (y0 : Int32) (σ : Sg) : Int32 × Sg :=
  o_ite (x1 = 1) (
    f_L_isSampled_212 x4 x5 x6 y0 σ) (
    o_ite (x1 = 2) (
      f_L_isSampled_212 x4 x5 x6 y0 σ) (
      o_ite (y0 = 0) (
        f_L_isSampled_377 x1 x5 ((((f_X5_count 2 σ) / 4) * 4080) + x2) σ) (
        o_ite (x7 = 2) (
          f_L_isSampled_377 x1 x5 ((((f_X5_count 2 σ) / 4) * 4080) + x2) σ) (
          o_ite (x7 = 3) (
            f_L_isSampled_301 x1 x2 x5 x6 x8 (f_X5_count 2 σ) ((((f_X5_count 2 σ) / 4) * 4080) + x2) (-1) x4 (f_X5_count 2 σ) σ) (
            f_L_isSampled_301 x1 x2 x5 x6 x8 (f_X5_count 2 σ) ((((f_X5_count 2 σ) / 4) * 4080) + x2) x7 x4 (f_X5_count 2 σ) σ)))))
def ok_L_isSampled_200  (x1 : Int32) (x2 : Int32) (x4 : Int32) (x5 : Int32) (x6 : Int32) (x7 : Int32) (x8 : Int32) (y0 : Int32) (σ : Sg) : Prop :=
  ((x1 = 1) →
    ok_L_isSampled_212 x4 x5 x6 y0 σ) ∧ (¬ (x1 = 1) →
    ((x1 = 2) →
      ok_L_isSampled_212 x4 x5 x6 y0 σ) ∧ (¬ (x1 = 2) →
      (ok_X5_count 2 σ) ∧ (((y0 = 0) →
        ok_L_isSampled_377 x1 x5 ((((f_X5_count 2 σ) / 4) * 4080) + x2) σ) ∧ (¬ (y0 = 0) →
        ((x7 = 2) →
          ok_L_isSampled_377 x1 x5 ((((f_X5_count 2 σ) / 4) * 4080) + x2) σ) ∧ (¬ (x7 = 2) →
          ((x7 = 3) →
            ok_L_isSampled_301 x1 x2 x5 x6 x8 (f_X5_count 2 σ) ((((f_X5_count 2 σ) / 4) * 4080) + x2) (-1) x4 (f_X5_count 2 σ) σ) ∧ (¬ (x7 = 3) →
            ok_L_isSampled_301 x1 x2 x5 x6 x8 (f_X5_count 2 σ) ((((f_X5_count 2 σ) / 4) * 4080) + x2) x7 x4 (f_X5_count 2 σ) σ))))))
noncomputable def f_L_isSampled_199  (x1 : Int32) (x2 : Int32) (x4 : Int32) (x5 : Int32) (x6 : Int32) (x7 : Int32) (x8 : Int32) (σ : Sg) : Int32 × Sg :=
  f_L_isSampled_200 x1 x2 x4 x5 x6 x7 x8 0 σ
def ok_L_isSampled_199  (x1 : Int32) (x2 : Int32) (x4 : Int32) (x5 : Int32) (x6 : Int32) (x7 : Int32) (x8 : Int32) (σ : Sg) : Prop :=
  ok_L_isSampled_200 x1 x2 x4 x5 x6 x7 x8 0 σ
noncomputable def f_L_isSampled_195  (x1 : Int32) (x2 : Int32) (x4 : Int32) (x5 : Int32) (x6 : Int32) (x7 : Int32) (x8 : Int32) (σ : Sg) : Int32 × Sg :=
  f_L_isSampled_200 x1 x2 x4 x5 x6 x7 x8 1 σ
def ok_L_isSampled_195  (x1 : Int32) (x2 : Int32) (x4 : Int32) (x5 : Int32) (x6 : Int32) (x7 : Int32) (x8 : Int32) (σ : Sg) : Prop :=
  ok_L_isSampled_200 x1 x2 x4 x5 x6 x7 x8 1 σ
noncomputable def f_L_isSampled_181  (x1 : Int32) (x2 : Int32) (x4 : Int32) (x5 : Int32) (x6 : Int32) (x7 : Int32) (x8 : Int32) (y0 : Int32) (y1 : Int32) (σ : Sg) : Int32 × Sg :=
  o_ite (y1 = y0) (
    o_ite (x1 = 2) (
      o_ite (x7 = 2) (
        f_L_isSampled_195 x1 x2 x4 x5 x6 x7 x8 σ) (
        f_L_isSampled_199 x1 x2 x4 x5 x6 x7 x8 σ)) (
      f_L_isSampled_195 x1 x2 x4 x5 x6 x7 x8 σ)) (
    f_L_isSampled_199 x1 x2 x4 x5 x6 x7 x8 σ)
def ok_L_isSampled_181  (x1 : Int32) (x2 : Int32) (x4 : Int32) (x5 : Int32) (x6 : Int32) (x7 : Int32) (x8 : Int32) (y0 : Int32) (y1 : Int32) (σ : Sg) : Prop :=
  ((y1 = y0) →
    ((x1 = 2) →
      ((x7 = 2) →
        ok_L_isSampled_195 x1 x2 x4 x5 x6 x7 x8 σ) ∧ (¬ (x7 = 2) →
        ok_L_isSampled_199 x1 x2 x4 x5 x6 x7 x8 σ)) ∧ (¬ (x1 = 2) →
      ok_L_isSampled_195 x1 x2 x4 x5 x6 x7 x8 σ)) ∧ (¬ (y1 = y0) →
    ok_L_isSampled_199 x1 x2 x4 x5 x6 x7 x8 σ)
noncomputable def f_L_isSampled_166  (x1 : Int32) (x2 : Int32) (x3 : Int32) (x4 : Int32) (x5 : Int32) (x6 : Int32) (x7 : Int32) (x8 : Int32) (y0 : Int32) (σ : Sg) : Int32 × Sg :=
  o_ite (x3 ≤ (f_X5_count 20 σ)) (
    f_L_isSampled_181 x1 x2 x4 x5 x6 x7 x8 0 y0 σ) (
    f_L_isSampled_181 x1 x2 x4 x5 x6 x7 x8 1 y0 σ)
def ok_L_isSampled_166  (x1 : Int32) (x2 : Int32) (x3 : Int32) (x4 : Int32) (x5 : Int32) (x6 : Int32) (x7 : Int32) (x8 : Int32) (y0 : Int32) (σ : Sg) : Prop :=
  (ok_X5_count 20 σ) ∧ (((x3 ≤ (f_X5_count 20 σ)) →
    ok_L_isSampled_181 x1 x2 x4 x5 x6 x7 x8 0 y0 σ) ∧ (¬ (x3 ≤ (f_X5_count 20 σ)) →
    ok_L_isSampled_181 x1 x2 x4 x5 x6 x7 x8 1 y0 σ))
noncomputable def f_L_isSampled_153  (x1 : Int32) (x2 : Int32) (x3 : Int32) (x4 : Int32) (x5 : Int32) (x6 : Int32) (x7 : Int32) (x8 : Int32) (y0 : Int32) (y1 : Int32) (σ : Sg) : Int32 × Sg :=
  o_ite (y1 = y0) (
    o_ite (x1 = 1) (
      f_L_isSampled_166 x1 x2 x3 x4 x5 x6 x7 x8 1 σ) (
      f_L_isSampled_166 x1 x2 x3 x4 x5 x6 x7 x8 0 σ)) (
    f_L_isSampled_199 x1 x2 x4 x5 x6 x7 x8 σ)
def ok_L_isSampled_153  (x1 : Int32) (x2 : Int32) (x3 : Int32) (x4 : Int32) (x5 : Int32) (x6 : Int32) (x7 : Int32) (x8 : Int32) (y0 : Int32) (y1 : Int32) (σ : Sg) : Prop :=
  ((y1 = y0) →
    ((x1 = 1) →
      ok_L_isSampled_166 x1 x2 x3 x4 x5 x6 x7 x8 1 σ) ∧ (¬ (x1 = 1) →
      ok_L_isSampled_166 x1 x2 x3 x4 x5 x6 x7 x8 0 σ)) ∧ (¬ (y1 = y0) →
    ok_L_isSampled_199 x1 x2 x4 x5 x6 x7 x8 σ)
noncomputable def f_L_isSampled_117  (x1 : Int32) (x2 : Int32) (x3 : Int32) (x4 : Int32) (x5 : Int32) (x6 : Int32) (x7 : Int32) (y0 : Int32) (σ : Sg) : Int32 × Sg :=
  let q2 := f_X5_sample σ
  o_ite (x1 < 0) (
    f_L_isSampled_199 x1 x2 x4 x5 x6 x7 y0 q2.2) (
    o_ite (5 ≤ x1) (
      f_L_isSampled_199 x1 x2 x4 x5 x6 x7 y0 q2.2) (
      o_ite (x1 = 0) (
        f_L_isSampled_153 x1 x2 x3 x4 x5 x6 x7 y0 (f_X5_count 6 q2.2) (q2.1) q2.2) (
        f_L_isSampled_153 x1 x2 x3 x4 x5 x6 x7 y0 (100000 + x1) (q2.1) q2.2)))
def ok_L_isSampled_117  (x1 : Int32) (x2 : Int32) (x3 : Int32) (x4 : Int32) (x5 : Int32) (x6 : Int32) (x7 : Int32) (y0 : Int32) (σ : Sg) : Prop :=
  (ok_X5_sample σ) ∧ (let q2 := f_X5_sample σ
  ((x1 < 0) →
    ok_L_isSampled_199 x1 x2 x4 x5 x6 x7 y0 q2.2) ∧ (¬ (x1 < 0) →
    ((5 ≤ x1) →
      ok_L_isSampled_199 x1 x2 x4 x5 x6 x7 y0 q2.2) ∧ (¬ (5 ≤ x1) →
      ((x1 = 0) →
        (ok_X5_count 6 q2.2) ∧ (ok_L_isSampled_153 x1 x2 x3 x4 x5 x6 x7 y0 (f_X5_count 6 q2.2) (q2.1) q2.2)) ∧ (¬ (x1 = 0) →
        ok_L_isSampled_153 x1 x2 x3 x4 x5 x6 x7 y0 (100000 + x1) (q2.1) q2.2))))
noncomputable def f_L_isSampled  (σ : Sg) : Int32 × Sg :=
  let q2 := f_X5_reason σ
  o_ite ((f_X5_count 3 q2.2) = 0) (
    o_ite (q2.1 = (-2)) (
      let q18 := f_X5_sample q2.2
      o_ite (q18.1 = (-2)) (
        (1, q18.2)) (
        (0, q18.2))) (
      (0, q2.2))) (
    let q5 := f_X5_look 0 q2.2
    let q7 := f_X5_look 1 q5.2
    let r12 := f_L_rest ((q5.1 / 1020) - (f_X5_count 2 q7.2)) 4 q7.2
    let r15 := f_L_near ((f_X5_count 8 q7.2) - ((q5.1 * 64) / 4080)) 64 q7.2
    o_ite (r15 ≤ (f_X5_count 21 q7.2)) (
      f_L_isSampled_117 (q2.1) (q5.1) (q7.1) (f_X5_count 2 q7.2) (f_X5_count 6 q7.2) (f_X5_count 7 q7.2) r12 0 q7.2) (
      f_L_isSampled_117 (q2.1) (q5.1) (q7.1) (f_X5_count 2 q7.2) (f_X5_count 6 q7.2) (f_X5_count 7 q7.2) r12 1 q7.2))
def ok_L_isSampled  (σ : Sg) : Prop :=
  (ok_X5_reason σ) ∧ (let q2 := f_X5_reason σ
  (ok_X5_count 3 q2.2) ∧ ((((f_X5_count 3 q2.2) = 0) →
    ((q2.1 = (-2)) →
      (ok_X5_sample q2.2) ∧ (let q18 := f_X5_sample q2.2
      ((q18.1 = (-2)) →
        True) ∧ (¬ (q18.1 = (-2)) →
        True))) ∧ (¬ (q2.1 = (-2)) →
      True)) ∧ (¬ ((f_X5_count 3 q2.2) = 0) →
    (ok_X5_look 0 q2.2) ∧ (let q5 := f_X5_look 0 q2.2
    (ok_X5_look 1 q5.2) ∧ (let q7 := f_X5_look 1 q5.2
    (ok_X5_count 2 q7.2) ∧ ((ok_X5_count 6 q7.2) ∧ ((ok_X5_count 7 q7.2) ∧ ((ok_L_rest ((q5.1 / 1020) - (f_X5_count 2 q7.2)) 4 q7.2) ∧ (let r12 := f_L_rest ((q5.1 / 1020) - (f_X5_count 2 q7.2)) 4 q7.2
    (ok_X5_count 8 q7.2) ∧ ((ok_L_near ((f_X5_count 8 q7.2) - ((q5.1 * 64) / 4080)) 64 q7.2) ∧ (let r15 := f_L_near ((f_X5_count 8 q7.2) - ((q5.1 * 64) / 4080)) 64 q7.2
    (ok_X5_count 21 q7.2) ∧ (((r15 ≤ (f_X5_count 21 q7.2)) →
      ok_L_isSampled_117 (q2.1) (q5.1) (q7.1) (f_X5_count 2 q7.2) (f_X5_count 6 q7.2) (f_X5_count 7 q7.2) r12 0 q7.2) ∧ (¬ (r15 ≤ (f_X5_count 21 q7.2)) →
      ok_L_isSampled_117 (q2.1) (q5.1) (q7.1) (f_X5_count 2 q7.2) (f_X5_count 6 q7.2) (f_X5_count 7 q7.2) r12 1 q7.2)))))))))))))
set_option maxHeartbeats 4000000 in
set_option maxRecDepth 100000 in
theorem t_L_isSampled_378 {p : Program} {l : Launch} {e : Env} {s : State} {m : MethodId} {args : Array Value} {below : List Frame} {meth : Method} {c : Code} {G : Gt} {post : Int32 → Sg → Prop}   (hc : o_Cx p s m args meth c G cL_isSampled yL_isSampled.cls 13) (hr : meth.sig.returnType = (some .boolean)) {x1 : Int32} {x5 : Int32} {x12 : Int32} {y0 : Int32} {σ : Sg} (hok : ok_L_isSampled_378  x1 x5 x12 y0 σ) (hq : ∀ q : Int32 × Sg, q = f_L_isSampled_378  x1 x5 x12 y0 σ → post q.1 q.2) : o_V p l e { frames := 7, cells := 0, slots := 0, locals := 166 } s m args below meth c (MQ below (va_Qi post (fun σ' t => o_W G σ' t.heap) (o_A G)) args s 0 0 (o_A G)) G 0 0 13 σ 378 [(0, .ref (gAd G 0)), (1, .int x1), (5, .int x5), (12, .int x12)] [.int y0] := by
  refine r_istore (pc := 378) (lv' := [(10, _), (0, _), (1, _), (5, _), (12, _)]) hc dL_isSampled_378 (by decide) rfl ?_
  refine r_iload (pc := 380) hc 0 dL_isSampled_380 rfl ?_
  refine r_if_eq (pc := 382) (tgt := 468) hc dL_isSampled_382 (by decide) (fun c382 => ?_) (fun c382 => ?_)
  · have hok := hok.1 c382
    have hq := o_qp hq c382
    refine r_iconst (pc := 468) (v := 0) hc dL_isSampled_468 rfl ?_
    exact r_iret hc hr rfl dL_isSampled_469 (hq (_, _) rfl)
  · have hok := hok.2 c382
    have hq := o_qn hq c382
    refine r_iload_n (pc := 385) hc 2 dL_isSampled_385 rfl rfl ?_
    refine r_if_ne (pc := 386) (tgt := 429) hc dL_isSampled_386 (by decide) (fun c386 => ?_) (fun c386 => ?_)
    · have hok := hok.2 c386
      have hq := o_qn hq c386
      refine r_aload_n (pc := 429) hc 1 dL_isSampled_429 rfl rfl ?_
      refine r_bipush (pc := 430) (v := 6) hc dL_isSampled_430 (by decide) ?_
      obtain ⟨hs1, hok⟩ := hok
      refine r_callV_i (pc := 432) (as := [.int _]) hc (c_X5_count l _ hs1) kk5 (o_lt hc (by decide)) rfl mV_X5_count kM_L_19 ⟨Nat.le_of_ble_eq_true rfl, Nat.le_of_ble_eq_true rfl⟩ ⟨Nat.le_of_ble_eq_true rfl, Nat.le_of_ble_eq_true rfl⟩ rfl rfl (Nat.le_of_ble_eq_true rfl) dL_isSampled_432 (fun r σ' h => ?_)
      obtain ⟨rfl, rfl⟩ := h
      refine r_iload (pc := 435) hc 3 dL_isSampled_435 rfl ?_
      refine r_icmp_ne (pc := 437) (tgt := 468) hc dL_isSampled_437 (by decide) (fun c437 => ?_) (fun c437 => ?_)
      · have hok := hok.2 c437
        have hq := o_qn hq c437
        refine r_iconst (pc := 468) (v := 0) hc dL_isSampled_468 rfl ?_
        exact r_iret hc hr rfl dL_isSampled_469 (hq (_, _) rfl)
      · have hok := hok.1 c437
        have hq := o_qp hq c437
        refine r_iload_n (pc := 440) hc 2 dL_isSampled_440 rfl rfl ?_
        refine r_iconst (pc := 441) (v := 3) hc dL_isSampled_441 rfl ?_
        refine r_icmp_eq (pc := 442) (tgt := 464) hc dL_isSampled_442 (by decide) (fun c442 => ?_) (fun c442 => ?_)
        · have hok := hok.1 c442
          have hq := o_qp hq c442
          refine r_iconst (pc := 464) (v := 1) hc dL_isSampled_464 rfl ?_
          refine r_goto (pc := 465) (tgt := 469) hc dL_isSampled_465 (by decide) ?_
          exact r_iret hc hr rfl dL_isSampled_469 (hq (_, _) rfl)
        · have hok := hok.2 c442
          have hq := o_qn hq c442
          refine r_iload (pc := 445) hc 4 dL_isSampled_445 rfl ?_
          refine r_iload (pc := 447) hc 3 dL_isSampled_447 rfl ?_
          refine r_isub (pc := 449) hc dL_isSampled_449 ?_
          refine r_ldc (pc := 450) (v := 65280) hc kK_L_91 dL_isSampled_450 ?_
          obtain ⟨hs2, hok⟩ := hok
          refine r_callS_i (pc := 452) (as := [.int _, .int _]) hc (c_L_near l _ hs2) mS_L_near kM_L_95 ⟨Nat.le_of_ble_eq_true rfl, Nat.le_of_ble_eq_true rfl⟩ ⟨Nat.le_of_ble_eq_true rfl, Nat.le_of_ble_eq_true rfl⟩ rfl rfl (Nat.le_of_ble_eq_true rfl) dL_isSampled_452 (fun r σ' h => ?_)
          obtain ⟨rfl, rfl⟩ := h
          refine r_aload_n (pc := 455) hc 1 dL_isSampled_455 rfl rfl ?_
          refine r_bipush (pc := 456) (v := 22) hc dL_isSampled_456 (by decide) ?_
          obtain ⟨hs3, hok⟩ := hok
          refine r_callV_i (pc := 458) (as := [.int _]) hc (c_X5_count l _ hs3) kk5 (o_lt hc (by decide)) rfl mV_X5_count kM_L_19 ⟨Nat.le_of_ble_eq_true rfl, Nat.le_of_ble_eq_true rfl⟩ ⟨Nat.le_of_ble_eq_true rfl, Nat.le_of_ble_eq_true rfl⟩ rfl rfl (Nat.le_of_ble_eq_true rfl) dL_isSampled_458 (fun r σ' h => ?_)
          obtain ⟨rfl, rfl⟩ := h
          refine r_icmp_le (pc := 461) (tgt := 468) hc dL_isSampled_461 (by decide) (fun c461 => ?_) (fun c461 => ?_)
          · have hok := hok.1 c461
            have hq := o_qp hq c461
            refine r_iconst (pc := 468) (v := 0) hc dL_isSampled_468 rfl ?_
            exact r_iret hc hr rfl dL_isSampled_469 (hq (_, _) rfl)
          · have hok := hok.2 c461
            have hq := o_qn hq c461
            refine r_iconst (pc := 464) (v := 1) hc dL_isSampled_464 rfl ?_
            refine r_goto (pc := 465) (tgt := 469) hc dL_isSampled_465 (by decide) ?_
            exact r_iret hc hr rfl dL_isSampled_469 (hq (_, _) rfl)
    · have hok := hok.1 c386
      have hq := o_qp hq c386
      refine r_aload_n (pc := 389) hc 1 dL_isSampled_389 rfl rfl ?_
      refine r_bipush (pc := 390) (v := 6) hc dL_isSampled_390 (by decide) ?_
      obtain ⟨hs4, hok⟩ := hok
      refine r_callV_i (pc := 392) (as := [.int _]) hc (c_X5_count l _ hs4) kk5 (o_lt hc (by decide)) rfl mV_X5_count kM_L_19 ⟨Nat.le_of_ble_eq_true rfl, Nat.le_of_ble_eq_true rfl⟩ ⟨Nat.le_of_ble_eq_true rfl, Nat.le_of_ble_eq_true rfl⟩ rfl rfl (Nat.le_of_ble_eq_true rfl) dL_isSampled_392 (fun r σ' h => ?_)
      obtain ⟨rfl, rfl⟩ := h
      refine r_iload (pc := 395) hc 4 dL_isSampled_395 rfl ?_
      refine r_icmp_ne (pc := 397) (tgt := 468) hc dL_isSampled_397 (by decide) (fun c397 => ?_) (fun c397 => ?_)
      · have hok := hok.2 c397
        have hq := o_qn hq c397
        refine r_iconst (pc := 468) (v := 0) hc dL_isSampled_468 rfl ?_
        exact r_iret hc hr rfl dL_isSampled_469 (hq (_, _) rfl)
      · have hok := hok.1 c397
        have hq := o_qp hq c397
        refine r_iload (pc := 400) hc 3 dL_isSampled_400 rfl ?_
        refine r_bipush (pc := 402) (v := (-4)) hc dL_isSampled_402 (by decide) ?_
        refine r_icmp_eq (pc := 404) (tgt := 464) hc dL_isSampled_404 (by decide) (fun c404 => ?_) (fun c404 => ?_)
        · have hok := hok.1 c404
          have hq := o_qp hq c404
          refine r_iconst (pc := 464) (v := 1) hc dL_isSampled_464 rfl ?_
          refine r_goto (pc := 465) (tgt := 469) hc dL_isSampled_465 (by decide) ?_
          exact r_iret hc hr rfl dL_isSampled_469 (hq (_, _) rfl)
        · have hok := hok.2 c404
          have hq := o_qn hq c404
          refine r_iload (pc := 407) hc 4 dL_isSampled_407 rfl ?_
          refine r_iload (pc := 409) hc 3 dL_isSampled_409 rfl ?_
          refine r_isub (pc := 411) hc dL_isSampled_411 ?_
          refine r_ldc (pc := 412) (v := 65280) hc kK_L_91 dL_isSampled_412 ?_
          obtain ⟨hs5, hok⟩ := hok
          refine r_callS_i (pc := 414) (as := [.int _, .int _]) hc (c_L_near l _ hs5) mS_L_near kM_L_95 ⟨Nat.le_of_ble_eq_true rfl, Nat.le_of_ble_eq_true rfl⟩ ⟨Nat.le_of_ble_eq_true rfl, Nat.le_of_ble_eq_true rfl⟩ rfl rfl (Nat.le_of_ble_eq_true rfl) dL_isSampled_414 (fun r σ' h => ?_)
          obtain ⟨rfl, rfl⟩ := h
          refine r_aload_n (pc := 417) hc 1 dL_isSampled_417 rfl rfl ?_
          refine r_bipush (pc := 418) (v := 22) hc dL_isSampled_418 (by decide) ?_
          obtain ⟨hs6, hok⟩ := hok
          refine r_callV_i (pc := 420) (as := [.int _]) hc (c_X5_count l _ hs6) kk5 (o_lt hc (by decide)) rfl mV_X5_count kM_L_19 ⟨Nat.le_of_ble_eq_true rfl, Nat.le_of_ble_eq_true rfl⟩ ⟨Nat.le_of_ble_eq_true rfl, Nat.le_of_ble_eq_true rfl⟩ rfl rfl (Nat.le_of_ble_eq_true rfl) dL_isSampled_420 (fun r σ' h => ?_)
          obtain ⟨rfl, rfl⟩ := h
          refine r_icmp_gt (pc := 423) (tgt := 468) hc dL_isSampled_423 (by decide) (fun c423 => ?_) (fun c423 => ?_)
          · have hok := hok.1 c423
            have hq := o_qp hq c423
            refine r_iconst (pc := 468) (v := 0) hc dL_isSampled_468 rfl ?_
            exact r_iret hc hr rfl dL_isSampled_469 (hq (_, _) rfl)
          · have hok := hok.2 c423
            have hq := o_qn hq c423
            refine r_goto (pc := 426) (tgt := 464) hc dL_isSampled_426 (by decide) ?_
            refine r_iconst (pc := 464) (v := 1) hc dL_isSampled_464 rfl ?_
            refine r_goto (pc := 465) (tgt := 469) hc dL_isSampled_465 (by decide) ?_
            exact r_iret hc hr rfl dL_isSampled_469 (hq (_, _) rfl)
set_option maxHeartbeats 4000000 in
set_option maxRecDepth 100000 in
theorem t_L_isSampled_377 {p : Program} {l : Launch} {e : Env} {s : State} {m : MethodId} {args : Array Value} {below : List Frame} {meth : Method} {c : Code} {G : Gt} {post : Int32 → Sg → Prop}   (hc : o_Cx p s m args meth c G cL_isSampled yL_isSampled.cls 13) (hr : meth.sig.returnType = (some .boolean)) {x1 : Int32} {x5 : Int32} {x12 : Int32} {σ : Sg} (hok : ok_L_isSampled_377  x1 x5 x12 σ) (hq : ∀ q : Int32 × Sg, q = f_L_isSampled_377  x1 x5 x12 σ → post q.1 q.2) : o_V p l e { frames := 7, cells := 0, slots := 0, locals := 166 } s m args below meth c (MQ below (va_Qi post (fun σ' t => o_W G σ' t.heap) (o_A G)) args s 0 0 (o_A G)) G 0 0 13 σ 377 [(0, .ref (gAd G 0)), (1, .int x1), (5, .int x5), (12, .int x12)] [] := by
  refine r_iconst (pc := 377) (v := 0) hc dL_isSampled_377 rfl ?_
  exact o_V.sub (t_L_isSampled_378  hc hr hok hq) [0, 1, 2, 3] rfl
set_option maxHeartbeats 4000000 in
set_option maxRecDepth 100000 in
theorem t_L_isSampled_370 {p : Program} {l : Launch} {e : Env} {s : State} {m : MethodId} {args : Array Value} {below : List Frame} {meth : Method} {c : Code} {G : Gt} {post : Int32 → Sg → Prop}   (hc : o_Cx p s m args meth c G cL_isSampled yL_isSampled.cls 13) (hr : meth.sig.returnType = (some .boolean)) {x1 : Int32} {x5 : Int32} {x12 : Int32} {y0 : Int32} {y1 : Int32} {σ : Sg} (hok : ok_L_isSampled_370  x1 x5 x12 y0 y1 σ) (hq : ∀ q : Int32 × Sg, q = f_L_isSampled_370  x1 x5 x12 y0 y1 σ → post q.1 q.2) : o_V p l e { frames := 7, cells := 0, slots := 0, locals := 166 } s m args below meth c (MQ below (va_Qi post (fun σ' t => o_W G σ' t.heap) (o_A G)) args s 0 0 (o_A G)) G 0 0 13 σ 370 [(0, .ref (gAd G 0)), (1, .int x1), (5, .int x5), (12, .int x12)] [.int y0, .int y1] := by
  refine r_icmp_ne (pc := 370) (tgt := 377) hc dL_isSampled_370 (by decide) (fun c370 => ?_) (fun c370 => ?_)
  · have hok := hok.2 c370
    have hq := o_qn hq c370
    exact o_V.sub (t_L_isSampled_377  hc hr hok hq) [0, 1, 2, 3] rfl
  · have hok := hok.1 c370
    have hq := o_qp hq c370
    refine r_iconst (pc := 373) (v := 1) hc dL_isSampled_373 rfl ?_
    refine r_goto (pc := 374) (tgt := 378) hc dL_isSampled_374 (by decide) ?_
    exact o_V.sub (t_L_isSampled_378  hc hr hok hq) [0, 1, 2, 3] rfl
set_option maxHeartbeats 4000000 in
set_option maxRecDepth 100000 in
theorem t_L_isSampled_369 {p : Program} {l : Launch} {e : Env} {s : State} {m : MethodId} {args : Array Value} {below : List Frame} {meth : Method} {c : Code} {G : Gt} {post : Int32 → Sg → Prop}   (hc : o_Cx p s m args meth c G cL_isSampled yL_isSampled.cls 13) (hr : meth.sig.returnType = (some .boolean)) {x1 : Int32} {x5 : Int32} {x12 : Int32} {y0 : Int32} {σ : Sg} (hok : ok_L_isSampled_369  x1 x5 x12 y0 σ) (hq : ∀ q : Int32 × Sg, q = f_L_isSampled_369  x1 x5 x12 y0 σ → post q.1 q.2) : o_V p l e { frames := 7, cells := 0, slots := 0, locals := 166 } s m args below meth c (MQ below (va_Qi post (fun σ' t => o_W G σ' t.heap) (o_A G)) args s 0 0 (o_A G)) G 0 0 13 σ 369 [(0, .ref (gAd G 0)), (1, .int x1), (5, .int x5), (12, .int x12)] [.int y0] := by
  refine r_iconst (pc := 369) (v := 0) hc dL_isSampled_369 rfl ?_
  exact o_V.sub (t_L_isSampled_370  hc hr hok hq) [0, 1, 2, 3] rfl
set_option maxHeartbeats 4000000 in
set_option maxRecDepth 100000 in
theorem t_L_isSampled_354 {p : Program} {l : Launch} {e : Env} {s : State} {m : MethodId} {args : Array Value} {below : List Frame} {meth : Method} {c : Code} {G : Gt} {post : Int32 → Sg → Prop}   (hc : o_Cx p s m args meth c G cL_isSampled yL_isSampled.cls 13) (hr : meth.sig.returnType = (some .boolean)) {x1 : Int32} {x5 : Int32} {x6 : Int32} {x8 : Int32} {x12 : Int32} {y0 : Int32} {σ : Sg} (hok : ok_L_isSampled_354  x1 x5 x6 x8 x12 y0 σ) (hq : ∀ q : Int32 × Sg, q = f_L_isSampled_354  x1 x5 x6 x8 x12 y0 σ → post q.1 q.2) : o_V p l e { frames := 7, cells := 0, slots := 0, locals := 166 } s m args below meth c (MQ below (va_Qi post (fun σ' t => o_W G σ' t.heap) (o_A G)) args s 0 0 (o_A G)) G 0 0 13 σ 354 [(0, .ref (gAd G 0)), (1, .int x1), (5, .int x5), (6, .int x6), (8, .int x8), (12, .int x12)] [.int y0] := by
  refine r_iload (pc := 354) hc 4 dL_isSampled_354 rfl ?_
  refine r_if_eq (pc := 356) (tgt := 369) hc dL_isSampled_356 (by decide) (fun c356 => ?_) (fun c356 => ?_)
  · have hok := hok.1 c356
    have hq := o_qp hq c356
    exact o_V.sub (t_L_isSampled_369  hc hr hok hq) [0, 1, 2, 5] rfl
  · have hok := hok.2 c356
    have hq := o_qn hq c356
    refine r_iload (pc := 359) hc 3 dL_isSampled_359 rfl ?_
    refine r_iconst (pc := 361) (v := 1) hc dL_isSampled_361 rfl ?_
    refine r_icmp_le (pc := 362) (tgt := 369) hc dL_isSampled_362 (by decide) (fun c362 => ?_) (fun c362 => ?_)
    · have hok := hok.1 c362
      have hq := o_qp hq c362
      exact o_V.sub (t_L_isSampled_369  hc hr hok hq) [0, 1, 2, 5] rfl
    · have hok := hok.2 c362
      have hq := o_qn hq c362
      refine r_iconst (pc := 365) (v := 1) hc dL_isSampled_365 rfl ?_
      refine r_goto (pc := 366) (tgt := 370) hc dL_isSampled_366 (by decide) ?_
      exact o_V.sub (t_L_isSampled_370  hc hr hok hq) [0, 1, 2, 5] rfl
set_option maxHeartbeats 4000000 in
set_option maxRecDepth 100000 in
theorem t_L_isSampled_341 {p : Program} {l : Launch} {e : Env} {s : State} {m : MethodId} {args : Array Value} {below : List Frame} {meth : Method} {c : Code} {G : Gt} {post : Int32 → Sg → Prop}   (hc : o_Cx p s m args meth c G cL_isSampled yL_isSampled.cls 13) (hr : meth.sig.returnType = (some .boolean)) {x1 : Int32} {x5 : Int32} {x6 : Int32} {x8 : Int32} {x12 : Int32} {y0 : Int32} {y1 : Int32} {σ : Sg} (hok : ok_L_isSampled_341  x1 x5 x6 x8 x12 y0 y1 σ) (hq : ∀ q : Int32 × Sg, q = f_L_isSampled_341  x1 x5 x6 x8 x12 y0 y1 σ → post q.1 q.2) : o_V p l e { frames := 7, cells := 0, slots := 0, locals := 166 } s m args below meth c (MQ below (va_Qi post (fun σ' t => o_W G σ' t.heap) (o_A G)) args s 0 0 (o_A G)) G 0 0 13 σ 341 [(0, .ref (gAd G 0)), (1, .int x1), (5, .int x5), (6, .int x6), (8, .int x8), (12, .int x12)] [.int y0, .int y1] := by
  refine r_icmp_ne (pc := 341) (tgt := 377) hc dL_isSampled_341 (by decide) (fun c341 => ?_) (fun c341 => ?_)
  · have hok := hok.2 c341
    have hq := o_qn hq c341
    exact o_V.sub (t_L_isSampled_377  hc hr hok hq) [0, 1, 2, 5] rfl
  · have hok := hok.1 c341
    have hq := o_qp hq c341
    refine r_iload_n (pc := 344) hc 1 dL_isSampled_344 rfl rfl ?_
    refine r_iconst (pc := 345) (v := 3) hc dL_isSampled_345 rfl ?_
    refine r_icmp_ne (pc := 346) (tgt := 353) hc dL_isSampled_346 (by decide) (fun c346 => ?_) (fun c346 => ?_)
    · have hok := hok.2 c346
      have hq := o_qn hq c346
      refine r_iconst (pc := 353) (v := 0) hc dL_isSampled_353 rfl ?_
      exact o_V.sub (t_L_isSampled_354  hc hr hok hq) [0, 1, 2, 3, 4, 5] rfl
    · have hok := hok.1 c346
      have hq := o_qp hq c346
      refine r_iconst (pc := 349) (v := 1) hc dL_isSampled_349 rfl ?_
      refine r_goto (pc := 350) (tgt := 354) hc dL_isSampled_350 (by decide) ?_
      exact o_V.sub (t_L_isSampled_354  hc hr hok hq) [0, 1, 2, 3, 4, 5] rfl
set_option maxHeartbeats 4000000 in
set_option maxRecDepth 100000 in
theorem t_L_isSampled_301 {p : Program} {l : Launch} {e : Env} {s : State} {m : MethodId} {args : Array Value} {below : List Frame} {meth : Method} {c : Code} {G : Gt} {post : Int32 → Sg → Prop}   (hc : o_Cx p s m args meth c G cL_isSampled yL_isSampled.cls 13) (hr : meth.sig.returnType = (some .boolean)) {x1 : Int32} {x2 : Int32} {x5 : Int32} {x6 : Int32} {x8 : Int32} {x11 : Int32} {x12 : Int32} {y0 : Int32} {y1 : Int32} {y2 : Int32} {σ : Sg} (hok : ok_L_isSampled_301  x1 x2 x5 x6 x8 x11 x12 y0 y1 y2 σ) (hq : ∀ q : Int32 × Sg, q = f_L_isSampled_301  x1 x2 x5 x6 x8 x11 x12 y0 y1 y2 σ → post q.1 q.2) : o_V p l e { frames := 7, cells := 0, slots := 0, locals := 166 } s m args below meth c (MQ below (va_Qi post (fun σ' t => o_W G σ' t.heap) (o_A G)) args s 0 0 (o_A G)) G 0 0 13 σ 301 [(0, .ref (gAd G 0)), (1, .int x1), (2, .int x2), (5, .int x5), (6, .int x6), (8, .int x8), (11, .int x11), (12, .int x12)] [.int y0, .int y1, .int y2] := by
  refine r_iadd (pc := 301) hc dL_isSampled_301 ?_
  refine r_bipush (pc := 302) (v := 64) hc dL_isSampled_302 (by decide) ?_
  obtain ⟨hs1, hok⟩ := hok
  refine r_callS_i (pc := 304) (as := [.int _, .int _]) hc (c_L_rest l _ hs1) mS_L_rest kM_L_9 ⟨Nat.le_of_ble_eq_true rfl, Nat.le_of_ble_eq_true rfl⟩ ⟨Nat.le_of_ble_eq_true rfl, Nat.le_of_ble_eq_true rfl⟩ rfl rfl (Nat.le_of_ble_eq_true rfl) dL_isSampled_304 (fun r σ' h => ?_)
  obtain ⟨rfl, rfl⟩ := h
  refine r_icmp_ne (pc := 307) (tgt := 377) hc dL_isSampled_307 (by decide) (fun c307 => ?_) (fun c307 => ?_)
  · have hok := hok.2 c307
    have hq := o_qn hq c307
    exact o_V.sub (t_L_isSampled_377  hc hr hok hq) [0, 1, 3, 7] rfl
  · have hok := hok.1 c307
    have hq := o_qp hq c307
    refine r_iload (pc := 310) hc 6 dL_isSampled_310 rfl ?_
    refine r_iconst (pc := 312) (v := 4) hc dL_isSampled_312 rfl ?_
    refine r_irem (pc := 313) hc dL_isSampled_313 (by decide) ?_
    refine r_iload_n (pc := 314) hc 2 dL_isSampled_314 rfl rfl ?_
    refine r_sipush (pc := 315) (v := 1020) hc dL_isSampled_315 (by decide) ?_
    refine r_idiv (pc := 318) hc dL_isSampled_318 (by decide) ?_
    refine r_icmp_ne (pc := 319) (tgt := 377) hc dL_isSampled_319 (by decide) (fun c319 => ?_) (fun c319 => ?_)
    · have hok := hok.2 c319
      have hq := o_qn hq c319
      exact o_V.sub (t_L_isSampled_377  hc hr hok hq) [0, 1, 3, 7] rfl
    · have hok := hok.1 c319
      have hq := o_qp hq c319
      refine r_aload_n (pc := 322) hc 0 dL_isSampled_322 rfl rfl ?_
      refine r_bipush (pc := 323) (v := 7) hc dL_isSampled_323 (by decide) ?_
      obtain ⟨hs2, hok⟩ := hok
      refine r_callV_i (pc := 325) (as := [.int _]) hc (c_X5_count l _ hs2) kk5 (o_lt hc (by decide)) rfl mV_X5_count kM_L_19 ⟨Nat.le_of_ble_eq_true rfl, Nat.le_of_ble_eq_true rfl⟩ ⟨Nat.le_of_ble_eq_true rfl, Nat.le_of_ble_eq_true rfl⟩ rfl rfl (Nat.le_of_ble_eq_true rfl) dL_isSampled_325 (fun r σ' h => ?_)
      obtain ⟨rfl, rfl⟩ := h
      refine r_iload (pc := 328) hc 5 dL_isSampled_328 rfl ?_
      refine r_if_eq (pc := 330) (tgt := 340) hc dL_isSampled_330 (by decide) (fun c330 => ?_) (fun c330 => ?_)
      · have hok := hok.1 c330
        have hq := o_qp hq c330
        refine r_iconst (pc := 340) (v := 0) hc dL_isSampled_340 rfl ?_
        exact o_V.sub (t_L_isSampled_341  hc hr hok hq) [0, 1, 3, 4, 5, 7] rfl
      · have hok := hok.2 c330
        have hq := o_qn hq c330
        refine r_iload (pc := 333) hc 4 dL_isSampled_333 rfl ?_
        refine r_iconst (pc := 335) (v := 1) hc dL_isSampled_335 rfl ?_
        refine r_iadd (pc := 336) hc dL_isSampled_336 ?_
        refine r_goto (pc := 337) (tgt := 341) hc dL_isSampled_337 (by decide) ?_
        exact o_V.sub (t_L_isSampled_341  hc hr hok hq) [0, 1, 3, 4, 5, 7] rfl
set_option maxHeartbeats 4000000 in
set_option maxRecDepth 100000 in
theorem t_L_isSampled_212 {p : Program} {l : Launch} {e : Env} {s : State} {m : MethodId} {args : Array Value} {below : List Frame} {meth : Method} {c : Code} {G : Gt} {post : Int32 → Sg → Prop}   (hc : o_Cx p s m args meth c G cL_isSampled yL_isSampled.cls 13) (hr : meth.sig.returnType = (some .boolean)) {x4 : Int32} {x5 : Int32} {x6 : Int32} {x10 : Int32} {σ : Sg} (hok : ok_L_isSampled_212  x4 x5 x6 x10 σ) (hq : ∀ q : Int32 × Sg, q = f_L_isSampled_212  x4 x5 x6 x10 σ → post q.1 q.2) : o_V p l e { frames := 7, cells := 0, slots := 0, locals := 166 } s m args below meth c (MQ below (va_Qi post (fun σ' t => o_W G σ' t.heap) (o_A G)) args s 0 0 (o_A G)) G 0 0 13 σ 212 [(0, .ref (gAd G 0)), (4, .int x4), (5, .int x5), (6, .int x6), (10, .int x10)] [] := by
  refine r_iload (pc := 212) hc 4 dL_isSampled_212 rfl ?_
  refine r_if_eq (pc := 214) (tgt := 253) hc dL_isSampled_214 (by decide) (fun c214 => ?_) (fun c214 => ?_)
  · have hok := hok.1 c214
    have hq := o_qp hq c214
    refine r_iconst (pc := 253) (v := 0) hc dL_isSampled_253 rfl ?_
    exact r_iret hc hr rfl dL_isSampled_254 (hq (_, _) rfl)
  · have hok := hok.2 c214
    have hq := o_qn hq c214
    refine r_aload_n (pc := 217) hc 0 dL_isSampled_217 rfl rfl ?_
    refine r_iconst (pc := 218) (v := 2) hc dL_isSampled_218 rfl ?_
    obtain ⟨hs1, hok⟩ := hok
    refine r_callV_i (pc := 219) (as := [.int _]) hc (c_X5_count l _ hs1) kk5 (o_lt hc (by decide)) rfl mV_X5_count kM_L_19 ⟨Nat.le_of_ble_eq_true rfl, Nat.le_of_ble_eq_true rfl⟩ ⟨Nat.le_of_ble_eq_true rfl, Nat.le_of_ble_eq_true rfl⟩ rfl rfl (Nat.le_of_ble_eq_true rfl) dL_isSampled_219 (fun r σ' h => ?_)
    obtain ⟨rfl, rfl⟩ := h
    refine r_iload (pc := 222) hc 1 dL_isSampled_222 rfl ?_
    refine r_icmp_ne (pc := 224) (tgt := 253) hc dL_isSampled_224 (by decide) (fun c224 => ?_) (fun c224 => ?_)
    · have hok := hok.2 c224
      have hq := o_qn hq c224
      refine r_iconst (pc := 253) (v := 0) hc dL_isSampled_253 rfl ?_
      exact r_iret hc hr rfl dL_isSampled_254 (hq (_, _) rfl)
    · have hok := hok.1 c224
      have hq := o_qp hq c224
      refine r_aload_n (pc := 227) hc 0 dL_isSampled_227 rfl rfl ?_
      refine r_bipush (pc := 228) (v := 6) hc dL_isSampled_228 (by decide) ?_
      obtain ⟨hs2, hok⟩ := hok
      refine r_callV_i (pc := 230) (as := [.int _]) hc (c_X5_count l _ hs2) kk5 (o_lt hc (by decide)) rfl mV_X5_count kM_L_19 ⟨Nat.le_of_ble_eq_true rfl, Nat.le_of_ble_eq_true rfl⟩ ⟨Nat.le_of_ble_eq_true rfl, Nat.le_of_ble_eq_true rfl⟩ rfl rfl (Nat.le_of_ble_eq_true rfl) dL_isSampled_230 (fun r σ' h => ?_)
      obtain ⟨rfl, rfl⟩ := h
      refine r_iload (pc := 233) hc 2 dL_isSampled_233 rfl ?_
      refine r_icmp_ne (pc := 235) (tgt := 253) hc dL_isSampled_235 (by decide) (fun c235 => ?_) (fun c235 => ?_)
      · have hok := hok.2 c235
        have hq := o_qn hq c235
        refine r_iconst (pc := 253) (v := 0) hc dL_isSampled_253 rfl ?_
        exact r_iret hc hr rfl dL_isSampled_254 (hq (_, _) rfl)
      · have hok := hok.1 c235
        have hq := o_qp hq c235
        refine r_aload_n (pc := 238) hc 0 dL_isSampled_238 rfl rfl ?_
        refine r_bipush (pc := 239) (v := 7) hc dL_isSampled_239 (by decide) ?_
        obtain ⟨hs3, hok⟩ := hok
        refine r_callV_i (pc := 241) (as := [.int _]) hc (c_X5_count l _ hs3) kk5 (o_lt hc (by decide)) rfl mV_X5_count kM_L_19 ⟨Nat.le_of_ble_eq_true rfl, Nat.le_of_ble_eq_true rfl⟩ ⟨Nat.le_of_ble_eq_true rfl, Nat.le_of_ble_eq_true rfl⟩ rfl rfl (Nat.le_of_ble_eq_true rfl) dL_isSampled_241 (fun r σ' h => ?_)
        obtain ⟨rfl, rfl⟩ := h
        refine r_iload (pc := 244) hc 3 dL_isSampled_244 rfl ?_
        refine r_icmp_ne (pc := 246) (tgt := 253) hc dL_isSampled_246 (by decide) (fun c246 => ?_) (fun c246 => ?_)
        · have hok := hok.2 c246
          have hq := o_qn hq c246
          refine r_iconst (pc := 253) (v := 0) hc dL_isSampled_253 rfl ?_
          exact r_iret hc hr rfl dL_isSampled_254 (hq (_, _) rfl)
        · have hok := hok.1 c246
          have hq := o_qp hq c246
          refine r_iconst (pc := 249) (v := 1) hc dL_isSampled_249 rfl ?_
          refine r_goto (pc := 250) (tgt := 254) hc dL_isSampled_250 (by decide) ?_
          exact r_iret hc hr rfl dL_isSampled_254 (hq (_, _) rfl)
set_option maxHeartbeats 4000000 in
set_option maxRecDepth 100000 in
theorem t_L_isSampled_200 {p : Program} {l : Launch} {e : Env} {s : State} {m : MethodId} {args : Array Value} {below : List Frame} {meth : Method} {c : Code} {G : Gt} {post : Int32 → Sg → Prop}   (hc : o_Cx p s m args meth c G cL_isSampled yL_isSampled.cls 13) (hr : meth.sig.returnType = (some .boolean)) {x1 : Int32} {x2 : Int32} {x4 : Int32} {x5 : Int32} {x6 : Int32} {x7 : Int32} {x8 : Int32} {y0 : Int32} {σ : Sg} (hok : ok_L_isSampled_200  x1 x2 x4 x5 x6 x7 x8 y0 σ) (hq : ∀ q : Int32 × Sg, q = f_L_isSampled_200  x1 x2 x4 x5 x6 x7 x8 y0 σ → post q.1 q.2) : o_V p l e { frames := 7, cells := 0, slots := 0, locals := 166 } s m args below meth c (MQ below (va_Qi post (fun σ' t => o_W G σ' t.heap) (o_A G)) args s 0 0 (o_A G)) G 0 0 13 σ 200 [(0, .ref (gAd G 0)), (1, .int x1), (2, .int x2), (4, .int x4), (5, .int x5), (6, .int x6), (7, .int x7), (8, .int x8)] [.int y0] := by
  refine r_istore (pc := 200) (lv' := [(10, _), (0, _), (1, _), (2, _), (4, _), (5, _), (6, _), (7, _), (8, _)]) hc dL_isSampled_200 (by decide) rfl ?_
  refine r_iload_n (pc := 202) hc 2 dL_isSampled_202 rfl rfl ?_
  refine r_iconst (pc := 203) (v := 1) hc dL_isSampled_203 rfl ?_
  refine r_icmp_eq (pc := 204) (tgt := 212) hc dL_isSampled_204 (by decide) (fun c204 => ?_) (fun c204 => ?_)
  · have hok := hok.1 c204
    have hq := o_qp hq c204
    exact o_V.sub (t_L_isSampled_212  hc hr hok hq) [1, 4, 5, 6, 0] rfl
  · have hok := hok.2 c204
    have hq := o_qn hq c204
    refine r_iload_n (pc := 207) hc 2 dL_isSampled_207 rfl rfl ?_
    refine r_iconst (pc := 208) (v := 2) hc dL_isSampled_208 rfl ?_
    refine r_icmp_ne (pc := 209) (tgt := 255) hc dL_isSampled_209 (by decide) (fun c209 => ?_) (fun c209 => ?_)
    · have hok := hok.2 c209
      have hq := o_qn hq c209
      refine r_aload_n (pc := 255) hc 1 dL_isSampled_255 rfl rfl ?_
      refine r_iconst (pc := 256) (v := 2) hc dL_isSampled_256 rfl ?_
      obtain ⟨hs1, hok⟩ := hok
      refine r_callV_i (pc := 257) (as := [.int _]) hc (c_X5_count l _ hs1) kk5 (o_lt hc (by decide)) rfl mV_X5_count kM_L_19 ⟨Nat.le_of_ble_eq_true rfl, Nat.le_of_ble_eq_true rfl⟩ ⟨Nat.le_of_ble_eq_true rfl, Nat.le_of_ble_eq_true rfl⟩ rfl rfl (Nat.le_of_ble_eq_true rfl) dL_isSampled_257 (fun r σ' h => ?_)
      obtain ⟨rfl, rfl⟩ := h
      refine r_istore (pc := 260) (lv' := [(11, _), (10, _), (0, _), (1, _), (2, _), (4, _), (5, _), (6, _), (7, _), (8, _)]) hc dL_isSampled_260 (by decide) rfl ?_
      refine r_iload (pc := 262) hc 0 dL_isSampled_262 rfl ?_
      refine r_iconst (pc := 264) (v := 4) hc dL_isSampled_264 rfl ?_
      refine r_idiv (pc := 265) hc dL_isSampled_265 (by decide) ?_
      refine r_sipush (pc := 266) (v := 4080) hc dL_isSampled_266 (by decide) ?_
      refine r_imul (pc := 269) hc dL_isSampled_269 ?_
      refine r_iload_n (pc := 270) hc 4 dL_isSampled_270 rfl rfl ?_
      refine r_iadd (pc := 271) hc dL_isSampled_271 ?_
      refine r_istore (pc := 272) (lv' := [(12, _), (11, _), (10, _), (0, _), (1, _), (2, _), (4, _), (5, _), (6, _), (7, _), (8, _)]) hc dL_isSampled_272 (by decide) rfl ?_
      refine r_iload (pc := 274) hc 2 dL_isSampled_274 rfl ?_
      refine r_if_eq (pc := 276) (tgt := 377) hc dL_isSampled_276 (by decide) (fun c276 => ?_) (fun c276 => ?_)
      · have hok := hok.1 c276
        have hq := o_qp hq c276
        exact o_V.sub (t_L_isSampled_377  hc hr hok hq) [3, 4, 7, 0] rfl
      · have hok := hok.2 c276
        have hq := o_qn hq c276
        refine r_iload (pc := 279) hc 9 dL_isSampled_279 rfl ?_
        refine r_iconst (pc := 281) (v := 2) hc dL_isSampled_281 rfl ?_
        refine r_icmp_eq (pc := 282) (tgt := 377) hc dL_isSampled_282 (by decide) (fun c282 => ?_) (fun c282 => ?_)
        · have hok := hok.1 c282
          have hq := o_qp hq c282
          exact o_V.sub (t_L_isSampled_377  hc hr hok hq) [3, 4, 7, 0] rfl
        · have hok := hok.2 c282
          have hq := o_qn hq c282
          refine r_iload (pc := 285) hc 1 dL_isSampled_285 rfl ?_
          refine r_iload (pc := 287) hc 6 dL_isSampled_287 rfl ?_
          refine r_iload (pc := 289) hc 9 dL_isSampled_289 rfl ?_
          refine r_iconst (pc := 291) (v := 3) hc dL_isSampled_291 rfl ?_
          refine r_icmp_ne (pc := 292) (tgt := 299) hc dL_isSampled_292 (by decide) (fun c292 => ?_) (fun c292 => ?_)
          · have hok := hok.2 c292
            have hq := o_qn hq c292
            refine r_iload (pc := 299) hc 9 dL_isSampled_299 rfl ?_
            exact o_V.sub (t_L_isSampled_301  hc hr hok hq) [3, 4, 5, 7, 8, 10, 1, 0] rfl
          · have hok := hok.1 c292
            have hq := o_qp hq c292
            refine r_iconst (pc := 295) (v := (-1)) hc dL_isSampled_295 rfl ?_
            refine r_goto (pc := 296) (tgt := 301) hc dL_isSampled_296 (by decide) ?_
            exact o_V.sub (t_L_isSampled_301  hc hr hok hq) [3, 4, 5, 7, 8, 10, 1, 0] rfl
    · have hok := hok.1 c209
      have hq := o_qp hq c209
      exact o_V.sub (t_L_isSampled_212  hc hr hok hq) [1, 4, 5, 6, 0] rfl
set_option maxHeartbeats 4000000 in
set_option maxRecDepth 100000 in
theorem t_L_isSampled_199 {p : Program} {l : Launch} {e : Env} {s : State} {m : MethodId} {args : Array Value} {below : List Frame} {meth : Method} {c : Code} {G : Gt} {post : Int32 → Sg → Prop}   (hc : o_Cx p s m args meth c G cL_isSampled yL_isSampled.cls 13) (hr : meth.sig.returnType = (some .boolean)) {x1 : Int32} {x2 : Int32} {x4 : Int32} {x5 : Int32} {x6 : Int32} {x7 : Int32} {x8 : Int32} {σ : Sg} (hok : ok_L_isSampled_199  x1 x2 x4 x5 x6 x7 x8 σ) (hq : ∀ q : Int32 × Sg, q = f_L_isSampled_199  x1 x2 x4 x5 x6 x7 x8 σ → post q.1 q.2) : o_V p l e { frames := 7, cells := 0, slots := 0, locals := 166 } s m args below meth c (MQ below (va_Qi post (fun σ' t => o_W G σ' t.heap) (o_A G)) args s 0 0 (o_A G)) G 0 0 13 σ 199 [(0, .ref (gAd G 0)), (1, .int x1), (2, .int x2), (4, .int x4), (5, .int x5), (6, .int x6), (7, .int x7), (8, .int x8)] [] := by
  refine r_iconst (pc := 199) (v := 0) hc dL_isSampled_199 rfl ?_
  exact o_V.sub (t_L_isSampled_200  hc hr hok hq) [0, 1, 2, 3, 4, 5, 6, 7] rfl
set_option maxHeartbeats 4000000 in
set_option maxRecDepth 100000 in
theorem t_L_isSampled_195 {p : Program} {l : Launch} {e : Env} {s : State} {m : MethodId} {args : Array Value} {below : List Frame} {meth : Method} {c : Code} {G : Gt} {post : Int32 → Sg → Prop}   (hc : o_Cx p s m args meth c G cL_isSampled yL_isSampled.cls 13) (hr : meth.sig.returnType = (some .boolean)) {x1 : Int32} {x2 : Int32} {x4 : Int32} {x5 : Int32} {x6 : Int32} {x7 : Int32} {x8 : Int32} {σ : Sg} (hok : ok_L_isSampled_195  x1 x2 x4 x5 x6 x7 x8 σ) (hq : ∀ q : Int32 × Sg, q = f_L_isSampled_195  x1 x2 x4 x5 x6 x7 x8 σ → post q.1 q.2) : o_V p l e { frames := 7, cells := 0, slots := 0, locals := 166 } s m args below meth c (MQ below (va_Qi post (fun σ' t => o_W G σ' t.heap) (o_A G)) args s 0 0 (o_A G)) G 0 0 13 σ 195 [(0, .ref (gAd G 0)), (1, .int x1), (2, .int x2), (4, .int x4), (5, .int x5), (6, .int x6), (7, .int x7), (8, .int x8)] [] := by
  refine r_iconst (pc := 195) (v := 1) hc dL_isSampled_195 rfl ?_
  refine r_goto (pc := 196) (tgt := 200) hc dL_isSampled_196 (by decide) ?_
  exact o_V.sub (t_L_isSampled_200  hc hr hok hq) [0, 1, 2, 3, 4, 5, 6, 7] rfl
set_option maxHeartbeats 4000000 in
set_option maxRecDepth 100000 in
theorem t_L_isSampled_181 {p : Program} {l : Launch} {e : Env} {s : State} {m : MethodId} {args : Array Value} {below : List Frame} {meth : Method} {c : Code} {G : Gt} {post : Int32 → Sg → Prop}   (hc : o_Cx p s m args meth c G cL_isSampled yL_isSampled.cls 13) (hr : meth.sig.returnType = (some .boolean)) {x1 : Int32} {x2 : Int32} {x4 : Int32} {x5 : Int32} {x6 : Int32} {x7 : Int32} {x8 : Int32} {y0 : Int32} {y1 : Int32} {σ : Sg} (hok : ok_L_isSampled_181  x1 x2 x4 x5 x6 x7 x8 y0 y1 σ) (hq : ∀ q : Int32 × Sg, q = f_L_isSampled_181  x1 x2 x4 x5 x6 x7 x8 y0 y1 σ → post q.1 q.2) : o_V p l e { frames := 7, cells := 0, slots := 0, locals := 166 } s m args below meth c (MQ below (va_Qi post (fun σ' t => o_W G σ' t.heap) (o_A G)) args s 0 0 (o_A G)) G 0 0 13 σ 181 [(0, .ref (gAd G 0)), (1, .int x1), (2, .int x2), (4, .int x4), (5, .int x5), (6, .int x6), (7, .int x7), (8, .int x8)] [.int y0, .int y1] := by
  refine r_icmp_ne (pc := 181) (tgt := 199) hc dL_isSampled_181 (by decide) (fun c181 => ?_) (fun c181 => ?_)
  · have hok := hok.2 c181
    have hq := o_qn hq c181
    exact o_V.sub (t_L_isSampled_199  hc hr hok hq) [0, 1, 2, 3, 4, 5, 6, 7] rfl
  · have hok := hok.1 c181
    have hq := o_qp hq c181
    refine r_iload_n (pc := 184) hc 1 dL_isSampled_184 rfl rfl ?_
    refine r_iconst (pc := 185) (v := 2) hc dL_isSampled_185 rfl ?_
    refine r_icmp_ne (pc := 186) (tgt := 195) hc dL_isSampled_186 (by decide) (fun c186 => ?_) (fun c186 => ?_)
    · have hok := hok.2 c186
      have hq := o_qn hq c186
      exact o_V.sub (t_L_isSampled_195  hc hr hok hq) [0, 1, 2, 3, 4, 5, 6, 7] rfl
    · have hok := hok.1 c186
      have hq := o_qp hq c186
      refine r_iload (pc := 189) hc 6 dL_isSampled_189 rfl ?_
      refine r_iconst (pc := 191) (v := 2) hc dL_isSampled_191 rfl ?_
      refine r_icmp_ne (pc := 192) (tgt := 199) hc dL_isSampled_192 (by decide) (fun c192 => ?_) (fun c192 => ?_)
      · have hok := hok.2 c192
        have hq := o_qn hq c192
        exact o_V.sub (t_L_isSampled_199  hc hr hok hq) [0, 1, 2, 3, 4, 5, 6, 7] rfl
      · have hok := hok.1 c192
        have hq := o_qp hq c192
        exact o_V.sub (t_L_isSampled_195  hc hr hok hq) [0, 1, 2, 3, 4, 5, 6, 7] rfl
set_option maxHeartbeats 4000000 in
set_option maxRecDepth 100000 in
theorem t_L_isSampled_166 {p : Program} {l : Launch} {e : Env} {s : State} {m : MethodId} {args : Array Value} {below : List Frame} {meth : Method} {c : Code} {G : Gt} {post : Int32 → Sg → Prop}   (hc : o_Cx p s m args meth c G cL_isSampled yL_isSampled.cls 13) (hr : meth.sig.returnType = (some .boolean)) {x1 : Int32} {x2 : Int32} {x3 : Int32} {x4 : Int32} {x5 : Int32} {x6 : Int32} {x7 : Int32} {x8 : Int32} {y0 : Int32} {σ : Sg} (hok : ok_L_isSampled_166  x1 x2 x3 x4 x5 x6 x7 x8 y0 σ) (hq : ∀ q : Int32 × Sg, q = f_L_isSampled_166  x1 x2 x3 x4 x5 x6 x7 x8 y0 σ → post q.1 q.2) : o_V p l e { frames := 7, cells := 0, slots := 0, locals := 166 } s m args below meth c (MQ below (va_Qi post (fun σ' t => o_W G σ' t.heap) (o_A G)) args s 0 0 (o_A G)) G 0 0 13 σ 166 [(0, .ref (gAd G 0)), (1, .int x1), (2, .int x2), (3, .int x3), (4, .int x4), (5, .int x5), (6, .int x6), (7, .int x7), (8, .int x8)] [.int y0] := by
  refine r_iload_n (pc := 166) hc 3 dL_isSampled_166 rfl rfl ?_
  refine r_aload_n (pc := 167) hc 0 dL_isSampled_167 rfl rfl ?_
  refine r_bipush (pc := 168) (v := 20) hc dL_isSampled_168 (by decide) ?_
  obtain ⟨hs1, hok⟩ := hok
  refine r_callV_i (pc := 170) (as := [.int _]) hc (c_X5_count l _ hs1) kk5 (o_lt hc (by decide)) rfl mV_X5_count kM_L_19 ⟨Nat.le_of_ble_eq_true rfl, Nat.le_of_ble_eq_true rfl⟩ ⟨Nat.le_of_ble_eq_true rfl, Nat.le_of_ble_eq_true rfl⟩ rfl rfl (Nat.le_of_ble_eq_true rfl) dL_isSampled_170 (fun r σ' h => ?_)
  obtain ⟨rfl, rfl⟩ := h
  refine r_icmp_le (pc := 173) (tgt := 180) hc dL_isSampled_173 (by decide) (fun c173 => ?_) (fun c173 => ?_)
  · have hok := hok.1 c173
    have hq := o_qp hq c173
    refine r_iconst (pc := 180) (v := 0) hc dL_isSampled_180 rfl ?_
    exact o_V.sub (t_L_isSampled_181  hc hr hok hq) [0, 1, 2, 4, 5, 6, 7, 8] rfl
  · have hok := hok.2 c173
    have hq := o_qn hq c173
    refine r_iconst (pc := 176) (v := 1) hc dL_isSampled_176 rfl ?_
    refine r_goto (pc := 177) (tgt := 181) hc dL_isSampled_177 (by decide) ?_
    exact o_V.sub (t_L_isSampled_181  hc hr hok hq) [0, 1, 2, 4, 5, 6, 7, 8] rfl
set_option maxHeartbeats 4000000 in
set_option maxRecDepth 100000 in
theorem t_L_isSampled_153 {p : Program} {l : Launch} {e : Env} {s : State} {m : MethodId} {args : Array Value} {below : List Frame} {meth : Method} {c : Code} {G : Gt} {post : Int32 → Sg → Prop}   (hc : o_Cx p s m args meth c G cL_isSampled yL_isSampled.cls 13) (hr : meth.sig.returnType = (some .boolean)) {x1 : Int32} {x2 : Int32} {x3 : Int32} {x4 : Int32} {x5 : Int32} {x6 : Int32} {x7 : Int32} {x8 : Int32} {y0 : Int32} {y1 : Int32} {σ : Sg} (hok : ok_L_isSampled_153  x1 x2 x3 x4 x5 x6 x7 x8 y0 y1 σ) (hq : ∀ q : Int32 × Sg, q = f_L_isSampled_153  x1 x2 x3 x4 x5 x6 x7 x8 y0 y1 σ → post q.1 q.2) : o_V p l e { frames := 7, cells := 0, slots := 0, locals := 166 } s m args below meth c (MQ below (va_Qi post (fun σ' t => o_W G σ' t.heap) (o_A G)) args s 0 0 (o_A G)) G 0 0 13 σ 153 [(0, .ref (gAd G 0)), (1, .int x1), (2, .int x2), (3, .int x3), (4, .int x4), (5, .int x5), (6, .int x6), (7, .int x7), (8, .int x8)] [.int y0, .int y1] := by
  refine r_icmp_ne (pc := 153) (tgt := 199) hc dL_isSampled_153 (by decide) (fun c153 => ?_) (fun c153 => ?_)
  · have hok := hok.2 c153
    have hq := o_qn hq c153
    exact o_V.sub (t_L_isSampled_199  hc hr hok hq) [0, 1, 2, 4, 5, 6, 7, 8] rfl
  · have hok := hok.1 c153
    have hq := o_qp hq c153
    refine r_iload_n (pc := 156) hc 1 dL_isSampled_156 rfl rfl ?_
    refine r_iconst (pc := 157) (v := 1) hc dL_isSampled_157 rfl ?_
    refine r_icmp_ne (pc := 158) (tgt := 165) hc dL_isSampled_158 (by decide) (fun c158 => ?_) (fun c158 => ?_)
    · have hok := hok.2 c158
      have hq := o_qn hq c158
      refine r_iconst (pc := 165) (v := 0) hc dL_isSampled_165 rfl ?_
      exact o_V.sub (t_L_isSampled_166  hc hr hok hq) [0, 1, 2, 3, 4, 5, 6, 7, 8] rfl
    · have hok := hok.1 c158
      have hq := o_qp hq c158
      refine r_iconst (pc := 161) (v := 1) hc dL_isSampled_161 rfl ?_
      refine r_goto (pc := 162) (tgt := 166) hc dL_isSampled_162 (by decide) ?_
      exact o_V.sub (t_L_isSampled_166  hc hr hok hq) [0, 1, 2, 3, 4, 5, 6, 7, 8] rfl
set_option maxHeartbeats 4000000 in
set_option maxRecDepth 100000 in
theorem t_L_isSampled_117 {p : Program} {l : Launch} {e : Env} {s : State} {m : MethodId} {args : Array Value} {below : List Frame} {meth : Method} {c : Code} {G : Gt} {post : Int32 → Sg → Prop}   (hc : o_Cx p s m args meth c G cL_isSampled yL_isSampled.cls 13) (hr : meth.sig.returnType = (some .boolean)) {x1 : Int32} {x2 : Int32} {x3 : Int32} {x4 : Int32} {x5 : Int32} {x6 : Int32} {x7 : Int32} {y0 : Int32} {σ : Sg} (hok : ok_L_isSampled_117  x1 x2 x3 x4 x5 x6 x7 y0 σ) (hq : ∀ q : Int32 × Sg, q = f_L_isSampled_117  x1 x2 x3 x4 x5 x6 x7 y0 σ → post q.1 q.2) : o_V p l e { frames := 7, cells := 0, slots := 0, locals := 166 } s m args below meth c (MQ below (va_Qi post (fun σ' t => o_W G σ' t.heap) (o_A G)) args s 0 0 (o_A G)) G 0 0 13 σ 117 [(0, .ref (gAd G 0)), (1, .int x1), (2, .int x2), (3, .int x3), (4, .int x4), (5, .int x5), (6, .int x6), (7, .int x7)] [.int y0] := by
  refine r_istore (pc := 117) (lv' := [(8, _), (0, _), (1, _), (2, _), (3, _), (4, _), (5, _), (6, _), (7, _)]) hc dL_isSampled_117 (by decide) rfl ?_
  refine r_aload_n (pc := 119) hc 1 dL_isSampled_119 rfl rfl ?_
  obtain ⟨hs1, hok⟩ := hok
  refine r_callV_i (pc := 120) (as := []) hc (c_X5_sample l _ hs1) kk5 (o_lt hc (by decide)) rfl mV_X5_sample kM_L_85 ⟨Nat.le_of_ble_eq_true rfl, Nat.le_of_ble_eq_true rfl⟩ ⟨Nat.le_of_ble_eq_true rfl, Nat.le_of_ble_eq_true rfl⟩ rfl rfl (Nat.le_of_ble_eq_true rfl) dL_isSampled_120 (fun r σ' h => ?_)
  obtain ⟨rfl, rfl⟩ := h
  refine r_istore (pc := 123) (lv' := [(9, _), (8, _), (0, _), (1, _), (2, _), (3, _), (4, _), (5, _), (6, _), (7, _)]) hc dL_isSampled_123 (by decide) rfl ?_
  refine r_iload_n (pc := 125) hc 3 dL_isSampled_125 rfl rfl ?_
  refine r_if_lt (pc := 126) (tgt := 199) hc dL_isSampled_126 (by decide) (fun c126 => ?_) (fun c126 => ?_)
  · have hok := hok.1 c126
    have hq := o_qp hq c126
    exact o_V.sub (t_L_isSampled_199  hc hr hok hq) [2, 3, 4, 6, 7, 8, 9, 1] rfl
  · have hok := hok.2 c126
    have hq := o_qn hq c126
    refine r_iload_n (pc := 129) hc 3 dL_isSampled_129 rfl rfl ?_
    refine r_iconst (pc := 130) (v := 5) hc dL_isSampled_130 rfl ?_
    refine r_icmp_ge (pc := 131) (tgt := 199) hc dL_isSampled_131 (by decide) (fun c131 => ?_) (fun c131 => ?_)
    · have hok := hok.1 c131
      have hq := o_qp hq c131
      exact o_V.sub (t_L_isSampled_199  hc hr hok hq) [2, 3, 4, 6, 7, 8, 9, 1] rfl
    · have hok := hok.2 c131
      have hq := o_qn hq c131
      refine r_iload (pc := 134) hc 0 dL_isSampled_134 rfl ?_
      refine r_iload_n (pc := 136) hc 3 dL_isSampled_136 rfl rfl ?_
      refine r_if_ne (pc := 137) (tgt := 149) hc dL_isSampled_137 (by decide) (fun c137 => ?_) (fun c137 => ?_)
      · have hok := hok.2 c137
        have hq := o_qn hq c137
        refine r_ldc (pc := 149) (v := 100000) hc kK_L_105 dL_isSampled_149 ?_
        refine r_iload_n (pc := 151) hc 3 dL_isSampled_151 rfl rfl ?_
        refine r_iadd (pc := 152) hc dL_isSampled_152 ?_
        exact o_V.sub (t_L_isSampled_153  hc hr hok hq) [2, 3, 4, 5, 6, 7, 8, 9, 1] rfl
      · have hok := hok.1 c137
        have hq := o_qp hq c137
        refine r_aload_n (pc := 140) hc 2 dL_isSampled_140 rfl rfl ?_
        refine r_bipush (pc := 141) (v := 6) hc dL_isSampled_141 (by decide) ?_
        obtain ⟨hs3, hok⟩ := hok
        refine r_callV_i (pc := 143) (as := [.int _]) hc (c_X5_count l _ hs3) kk5 (o_lt hc (by decide)) rfl mV_X5_count kM_L_19 ⟨Nat.le_of_ble_eq_true rfl, Nat.le_of_ble_eq_true rfl⟩ ⟨Nat.le_of_ble_eq_true rfl, Nat.le_of_ble_eq_true rfl⟩ rfl rfl (Nat.le_of_ble_eq_true rfl) dL_isSampled_143 (fun r σ' h => ?_)
        obtain ⟨rfl, rfl⟩ := h
        refine r_goto (pc := 146) (tgt := 153) hc dL_isSampled_146 (by decide) ?_
        exact o_V.sub (t_L_isSampled_153  hc hr hok hq) [2, 3, 4, 5, 6, 7, 8, 9, 1] rfl
set_option maxHeartbeats 4000000 in
set_option maxRecDepth 100000 in
theorem c_L_isSampled (l : Launch) (G : Gt)   {σ : Sg} (hok : ok_L_isSampled  σ) : o_Ci l G yL_isSampled cL_isSampled 13 (some .boolean) 7 166 [.ref (gAd G 0)] σ (fun r σ' => r = (f_L_isSampled  σ).1 ∧ σ' = (f_L_isSampled  σ).2) := by
  refine o_Ci.of (by decide +kernel) (Nat.le_of_ble_eq_true rfl) ?_
  intro p e s m args below meth c hc hr
  have hq : ∀ q : Int32 × Sg, q = f_L_isSampled  σ → (fun r σ' => r = (f_L_isSampled  σ).1 ∧ σ' = (f_L_isSampled  σ).2) q.1 q.2 := fun q h => ⟨congrArg Prod.fst h, congrArg Prod.snd h⟩
  refine r_aload_n (pc := 0) hc 0 dL_isSampled_0 rfl rfl ?_
  obtain ⟨hs1, hok⟩ := hok
  refine r_callV_i (pc := 1) (as := []) hc (c_X5_reason l _ hs1) kk5 (o_lt hc (by decide)) rfl mV_X5_reason kM_L_88 ⟨Nat.le_of_ble_eq_true rfl, Nat.le_of_ble_eq_true rfl⟩ ⟨Nat.le_of_ble_eq_true rfl, Nat.le_of_ble_eq_true rfl⟩ rfl rfl (Nat.le_of_ble_eq_true rfl) dL_isSampled_1 (fun r σ' h => ?_)
  obtain ⟨rfl, rfl⟩ := h
  refine r_istore_n (pc := 4) (lv' := [(1, _), (0, _)]) hc dL_isSampled_4 rfl (by decide) rfl ?_
  refine r_aload_n (pc := 5) hc 1 dL_isSampled_5 rfl rfl ?_
  refine r_iconst (pc := 6) (v := 3) hc dL_isSampled_6 rfl ?_
  obtain ⟨hs3, hok⟩ := hok
  refine r_callV_i (pc := 7) (as := [.int _]) hc (c_X5_count l _ hs3) kk5 (o_lt hc (by decide)) rfl mV_X5_count kM_L_19 ⟨Nat.le_of_ble_eq_true rfl, Nat.le_of_ble_eq_true rfl⟩ ⟨Nat.le_of_ble_eq_true rfl, Nat.le_of_ble_eq_true rfl⟩ rfl rfl (Nat.le_of_ble_eq_true rfl) dL_isSampled_7 (fun r σ' h => ?_)
  obtain ⟨rfl, rfl⟩ := h
  refine r_if_ne (pc := 10) (tgt := 34) hc dL_isSampled_10 (by decide) (fun c10 => ?_) (fun c10 => ?_)
  · have hok := hok.2 c10
    have hq := o_qn hq c10
    refine r_aload_n (pc := 34) hc 1 dL_isSampled_34 rfl rfl ?_
    refine r_iconst (pc := 35) (v := 0) hc dL_isSampled_35 rfl ?_
    obtain ⟨hs4, hok⟩ := hok
    refine r_callV_i (pc := 36) (as := [.int _]) hc (c_X5_look l _ hs4) kk5 (o_lt hc (by decide)) rfl mV_X5_look kM_L_66 ⟨Nat.le_of_ble_eq_true rfl, Nat.le_of_ble_eq_true rfl⟩ ⟨Nat.le_of_ble_eq_true rfl, Nat.le_of_ble_eq_true rfl⟩ rfl rfl (Nat.le_of_ble_eq_true rfl) dL_isSampled_36 (fun r σ' h => ?_)
    obtain ⟨rfl, rfl⟩ := h
    refine r_istore_n (pc := 39) (lv' := [(2, _), (1, _), (0, _)]) hc dL_isSampled_39 rfl (by decide) rfl ?_
    refine r_aload_n (pc := 40) hc 2 dL_isSampled_40 rfl rfl ?_
    refine r_iconst (pc := 41) (v := 1) hc dL_isSampled_41 rfl ?_
    obtain ⟨hs6, hok⟩ := hok
    refine r_callV_i (pc := 42) (as := [.int _]) hc (c_X5_look l _ hs6) kk5 (o_lt hc (by decide)) rfl mV_X5_look kM_L_66 ⟨Nat.le_of_ble_eq_true rfl, Nat.le_of_ble_eq_true rfl⟩ ⟨Nat.le_of_ble_eq_true rfl, Nat.le_of_ble_eq_true rfl⟩ rfl rfl (Nat.le_of_ble_eq_true rfl) dL_isSampled_42 (fun r σ' h => ?_)
    obtain ⟨rfl, rfl⟩ := h
    refine r_istore_n (pc := 45) (lv' := [(3, _), (2, _), (1, _), (0, _)]) hc dL_isSampled_45 rfl (by decide) rfl ?_
    refine r_aload_n (pc := 46) hc 3 dL_isSampled_46 rfl rfl ?_
    refine r_iconst (pc := 47) (v := 2) hc dL_isSampled_47 rfl ?_
    obtain ⟨hs8, hok⟩ := hok
    refine r_callV_i (pc := 48) (as := [.int _]) hc (c_X5_count l _ hs8) kk5 (o_lt hc (by decide)) rfl mV_X5_count kM_L_19 ⟨Nat.le_of_ble_eq_true rfl, Nat.le_of_ble_eq_true rfl⟩ ⟨Nat.le_of_ble_eq_true rfl, Nat.le_of_ble_eq_true rfl⟩ rfl rfl (Nat.le_of_ble_eq_true rfl) dL_isSampled_48 (fun r σ' h => ?_)
    obtain ⟨rfl, rfl⟩ := h
    refine r_istore (pc := 51) (lv' := [(4, _), (3, _), (2, _), (1, _), (0, _)]) hc dL_isSampled_51 (by decide) rfl ?_
    refine r_aload_n (pc := 53) hc 4 dL_isSampled_53 rfl rfl ?_
    refine r_bipush (pc := 54) (v := 6) hc dL_isSampled_54 (by decide) ?_
    obtain ⟨hs9, hok⟩ := hok
    refine r_callV_i (pc := 56) (as := [.int _]) hc (c_X5_count l _ hs9) kk5 (o_lt hc (by decide)) rfl mV_X5_count kM_L_19 ⟨Nat.le_of_ble_eq_true rfl, Nat.le_of_ble_eq_true rfl⟩ ⟨Nat.le_of_ble_eq_true rfl, Nat.le_of_ble_eq_true rfl⟩ rfl rfl (Nat.le_of_ble_eq_true rfl) dL_isSampled_56 (fun r σ' h => ?_)
    obtain ⟨rfl, rfl⟩ := h
    refine r_istore (pc := 59) (lv' := [(5, _), (4, _), (3, _), (2, _), (1, _), (0, _)]) hc dL_isSampled_59 (by decide) rfl ?_
    refine r_aload_n (pc := 61) hc 5 dL_isSampled_61 rfl rfl ?_
    refine r_bipush (pc := 62) (v := 7) hc dL_isSampled_62 (by decide) ?_
    obtain ⟨hs10, hok⟩ := hok
    refine r_callV_i (pc := 64) (as := [.int _]) hc (c_X5_count l _ hs10) kk5 (o_lt hc (by decide)) rfl mV_X5_count kM_L_19 ⟨Nat.le_of_ble_eq_true rfl, Nat.le_of_ble_eq_true rfl⟩ ⟨Nat.le_of_ble_eq_true rfl, Nat.le_of_ble_eq_true rfl⟩ rfl rfl (Nat.le_of_ble_eq_true rfl) dL_isSampled_64 (fun r σ' h => ?_)
    obtain ⟨rfl, rfl⟩ := h
    refine r_istore (pc := 67) (lv' := [(6, _), (5, _), (4, _), (3, _), (2, _), (1, _), (0, _)]) hc dL_isSampled_67 (by decide) rfl ?_
    refine r_iload_n (pc := 69) hc 4 dL_isSampled_69 rfl rfl ?_
    refine r_sipush (pc := 70) (v := 1020) hc dL_isSampled_70 (by decide) ?_
    refine r_idiv (pc := 73) hc dL_isSampled_73 (by decide) ?_
    refine r_iload (pc := 74) hc 2 dL_isSampled_74 rfl ?_
    refine r_isub (pc := 76) hc dL_isSampled_76 ?_
    refine r_iconst (pc := 77) (v := 4) hc dL_isSampled_77 rfl ?_
    obtain ⟨hs11, hok⟩ := hok
    refine r_callS_i (pc := 78) (as := [.int _, .int _]) hc (c_L_rest l _ hs11) mS_L_rest kM_L_9 ⟨Nat.le_of_ble_eq_true rfl, Nat.le_of_ble_eq_true rfl⟩ ⟨Nat.le_of_ble_eq_true rfl, Nat.le_of_ble_eq_true rfl⟩ rfl rfl (Nat.le_of_ble_eq_true rfl) dL_isSampled_78 (fun r σ' h => ?_)
    obtain ⟨rfl, rfl⟩ := h
    refine r_istore (pc := 81) (lv' := [(7, _), (6, _), (5, _), (4, _), (3, _), (2, _), (1, _), (0, _)]) hc dL_isSampled_81 (by decide) rfl ?_
    refine r_aload_n (pc := 83) hc 7 dL_isSampled_83 rfl rfl ?_
    refine r_bipush (pc := 84) (v := 8) hc dL_isSampled_84 (by decide) ?_
    obtain ⟨hs13, hok⟩ := hok
    refine r_callV_i (pc := 86) (as := [.int _]) hc (c_X5_count l _ hs13) kk5 (o_lt hc (by decide)) rfl mV_X5_count kM_L_19 ⟨Nat.le_of_ble_eq_true rfl, Nat.le_of_ble_eq_true rfl⟩ ⟨Nat.le_of_ble_eq_true rfl, Nat.le_of_ble_eq_true rfl⟩ rfl rfl (Nat.le_of_ble_eq_true rfl) dL_isSampled_86 (fun r σ' h => ?_)
    obtain ⟨rfl, rfl⟩ := h
    refine r_iload_n (pc := 89) hc 5 dL_isSampled_89 rfl rfl ?_
    refine r_bipush (pc := 90) (v := 64) hc dL_isSampled_90 (by decide) ?_
    refine r_imul (pc := 92) hc dL_isSampled_92 ?_
    refine r_sipush (pc := 93) (v := 4080) hc dL_isSampled_93 (by decide) ?_
    refine r_idiv (pc := 96) hc dL_isSampled_96 (by decide) ?_
    refine r_isub (pc := 97) hc dL_isSampled_97 ?_
    refine r_bipush (pc := 98) (v := 64) hc dL_isSampled_98 (by decide) ?_
    obtain ⟨hs14, hok⟩ := hok
    refine r_callS_i (pc := 100) (as := [.int _, .int _]) hc (c_L_near l _ hs14) mS_L_near kM_L_95 ⟨Nat.le_of_ble_eq_true rfl, Nat.le_of_ble_eq_true rfl⟩ ⟨Nat.le_of_ble_eq_true rfl, Nat.le_of_ble_eq_true rfl⟩ rfl rfl (Nat.le_of_ble_eq_true rfl) dL_isSampled_100 (fun r σ' h => ?_)
    obtain ⟨rfl, rfl⟩ := h
    refine r_aload_n (pc := 103) hc 7 dL_isSampled_103 rfl rfl ?_
    refine r_bipush (pc := 104) (v := 21) hc dL_isSampled_104 (by decide) ?_
    obtain ⟨hs16, hok⟩ := hok
    refine r_callV_i (pc := 106) (as := [.int _]) hc (c_X5_count l _ hs16) kk5 (o_lt hc (by decide)) rfl mV_X5_count kM_L_19 ⟨Nat.le_of_ble_eq_true rfl, Nat.le_of_ble_eq_true rfl⟩ ⟨Nat.le_of_ble_eq_true rfl, Nat.le_of_ble_eq_true rfl⟩ rfl rfl (Nat.le_of_ble_eq_true rfl) dL_isSampled_106 (fun r σ' h => ?_)
    obtain ⟨rfl, rfl⟩ := h
    refine r_icmp_le (pc := 109) (tgt := 116) hc dL_isSampled_109 (by decide) (fun c109 => ?_) (fun c109 => ?_)
    · have hok := hok.1 c109
      have hq := o_qp hq c109
      refine r_iconst (pc := 116) (v := 0) hc dL_isSampled_116 rfl ?_
      exact o_V.sub (t_L_isSampled_117  hc hr hok hq) [7, 6, 5, 4, 3, 2, 1, 0] rfl
    · have hok := hok.2 c109
      have hq := o_qn hq c109
      refine r_iconst (pc := 112) (v := 1) hc dL_isSampled_112 rfl ?_
      refine r_goto (pc := 113) (tgt := 117) hc dL_isSampled_113 (by decide) ?_
      exact o_V.sub (t_L_isSampled_117  hc hr hok hq) [7, 6, 5, 4, 3, 2, 1, 0] rfl
  · have hok := hok.1 c10
    have hq := o_qp hq c10
    refine r_iload_n (pc := 13) hc 0 dL_isSampled_13 rfl rfl ?_
    refine r_bipush (pc := 14) (v := (-2)) hc dL_isSampled_14 (by decide) ?_
    refine r_icmp_ne (pc := 16) (tgt := 32) hc dL_isSampled_16 (by decide) (fun c16 => ?_) (fun c16 => ?_)
    · have hok := hok.2 c16
      have hq := o_qn hq c16
      refine r_iconst (pc := 32) (v := 0) hc dL_isSampled_32 rfl ?_
      exact r_iret hc hr rfl dL_isSampled_33 (hq (_, _) rfl)
    · have hok := hok.1 c16
      have hq := o_qp hq c16
      refine r_aload_n (pc := 19) hc 1 dL_isSampled_19 rfl rfl ?_
      obtain ⟨hs17, hok⟩ := hok
      refine r_callV_i (pc := 20) (as := []) hc (c_X5_sample l _ hs17) kk5 (o_lt hc (by decide)) rfl mV_X5_sample kM_L_85 ⟨Nat.le_of_ble_eq_true rfl, Nat.le_of_ble_eq_true rfl⟩ ⟨Nat.le_of_ble_eq_true rfl, Nat.le_of_ble_eq_true rfl⟩ rfl rfl (Nat.le_of_ble_eq_true rfl) dL_isSampled_20 (fun r σ' h => ?_)
      obtain ⟨rfl, rfl⟩ := h
      refine r_bipush (pc := 23) (v := (-2)) hc dL_isSampled_23 (by decide) ?_
      refine r_icmp_ne (pc := 25) (tgt := 32) hc dL_isSampled_25 (by decide) (fun c25 => ?_) (fun c25 => ?_)
      · have hok := hok.2 c25
        have hq := o_qn hq c25
        refine r_iconst (pc := 32) (v := 0) hc dL_isSampled_32 rfl ?_
        exact r_iret hc hr rfl dL_isSampled_33 (hq (_, _) rfl)
      · have hok := hok.1 c25
        have hq := o_qp hq c25
        refine r_iconst (pc := 28) (v := 1) hc dL_isSampled_28 rfl ?_
        refine r_goto (pc := 29) (tgt := 33) hc dL_isSampled_29 (by decide) ?_
        exact r_iret hc hr rfl dL_isSampled_33 (hq (_, _) rfl)
