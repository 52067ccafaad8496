set_option linter.all false
noncomputable def f_L_acts_416  (y0 : Int32) (σ : Sg) : Int32 × Sg :=
  let q2 := f_X5_forget σ
  o_ite (q2.1 = y0) (
    o_ite ((f_X5_count 6 q2.2) = (-4)) (
      o_ite ((f_X5_count 7 q2.2) = 0) (
        (1, q2.2)) (
        (0, q2.2))) (
      (0, q2.2))) (
    (0, q2.2))
def ok_L_acts_416  (y0 : Int32) (σ : Sg) : Prop :=
  (ok_X5_forget σ) ∧ (let q2 := f_X5_forget σ
  ((q2.1 = y0) →
    (ok_X5_count 6 q2.2) ∧ ((((f_X5_count 6 q2.2) = (-4)) →
      (ok_X5_count 7 q2.2) ∧ ((((f_X5_count 7 q2.2) = 0) →
        True) ∧ (¬ ((f_X5_count 7 q2.2) = 0) →
        True))) ∧ (¬ ((f_X5_count 6 q2.2) = (-4)) →
      True))) ∧ (¬ (q2.1 = y0) →
    True))
noncomputable def f_L_acts_346  (y0 : Int32) (y1 : Int32) (y2 : Int32) (σ : Sg) : Int32 × Sg :=
  o_ite (y2 = (y1 + y0)) (
    (1, σ)) (
    (0, σ))
def ok_L_acts_346  (y0 : Int32) (y1 : Int32) (y2 : Int32) (σ : Sg) : Prop :=
  ((y2 = (y1 + y0)) →
    True) ∧ (¬ (y2 = (y1 + y0)) →
    True)
noncomputable def f_L_acts_313  (x3 : Int32) (y0 : Int32) (σ : Sg) : Int32 × Sg :=
  let q2 := f_X5_set x3 y0 σ
  o_ite (q2.1 < 0) (
    (0, q2.2)) (
    o_ite (x3 = 3) (
      f_L_acts_346 100 y0 (f_X5_count (20 + x3) q2.2) q2.2) (
      f_L_acts_346 0 y0 (f_X5_count (20 + x3) q2.2) q2.2))
def ok_L_acts_313  (x3 : Int32) (y0 : Int32) (σ : Sg) : Prop :=
  (ok_X5_set x3 y0 σ) ∧ (let q2 := f_X5_set x3 y0 σ
  ((q2.1 < 0) →
    True) ∧ (¬ (q2.1 < 0) →
    (ok_X5_count (20 + x3) q2.2) ∧ (((x3 = 3) →
      ok_L_acts_346 100 y0 (f_X5_count (20 + x3) q2.2) q2.2) ∧ (¬ (x3 = 3) →
      ok_L_acts_346 0 y0 (f_X5_count (20 + x3) q2.2) q2.2))))
noncomputable def f_L_acts (p1 : Int32) (p2 : Int32) (σ : Sg) : Int32 × Sg :=
  o_ite ((f_L_low p1 14 σ) = 0) (
    let q3 := f_L_isTurned p2 σ
    (q3.1, q3.2)) (
    o_ite ((f_L_low p1 14 σ) = 1) (
      let q6 := f_L_isTurned p2 σ
      (q6.1, q6.2)) (
      o_ite ((f_L_low p1 14 σ) = 2) (
        let q9 := f_L_isTurned p2 σ
        (q9.1, q9.2)) (
        o_ite ((f_L_low p1 14 σ) = 3) (
          let q13 := f_X5_power (f_L_low p2 2 σ) σ
          o_ite (q13.1 < 0) (
            (0, q13.2)) (
            (1, q13.2))) (
          o_ite ((f_L_low p1 14 σ) = 4) (
            let q16 := f_X5_brownout (1 + (f_L_low p2 9 σ)) σ
            o_ite (q16.1 = (-1)) (
              (0, q16.2)) (
              (1, q16.2))) (
            o_ite ((f_L_low p1 14 σ) = 5) (
              let q19 := f_X5_charge (f_L_low p2 40 σ) σ
              o_ite (q19.1 < 0) (
                (0, q19.2)) (
                (1, q19.2))) (
              o_ite ((f_L_low p1 14 σ) = 6) (
                let v22 := ((f_L_low (p2 >>> ((6 : Int32) &&& 31)) 19 σ) - 9)
                let q25 := f_X5_disk (f_L_low p2 3 σ) (f_L_low (p2 >>> ((2 : Int32) &&& 31)) 8 σ) v22 σ
                o_ite (q25.1 ≤ 90) (
                  (0, q25.2)) (
                  o_ite (110 ≤ q25.1) (
                    (0, q25.2)) (
                    let q28 := f_X5_disk (f_L_low p2 3 σ) (f_L_low (p2 >>> ((2 : Int32) &&& 31)) 8 q25.2) v22 q25.2
                    o_ite (q28.1 = (v22 + 100)) (
                      (1, q28.2)) (
                      (0, q28.2))))) (
                o_ite ((f_L_low p1 14 σ) = 7) (
                  let v31 := ((f_L_low (p2 >>> ((6 : Int32) &&& 31)) 19 σ) - 9)
                  let q34 := f_X5_disk (f_L_low p2 3 σ) (f_L_low (p2 >>> ((2 : Int32) &&& 31)) 8 σ) v31 σ
                  o_ite (q34.1 ≤ 90) (
                    (0, q34.2)) (
                    o_ite (110 ≤ q34.1) (
                      (0, q34.2)) (
                      let q37 := f_X5_disk (f_L_low p2 3 σ) (f_L_low (p2 >>> ((2 : Int32) &&& 31)) 8 q34.2) v31 q34.2
                      o_ite (q37.1 = (v31 + 100)) (
                        (1, q37.2)) (
                        (0, q37.2))))) (
                  o_ite ((f_L_low p1 14 σ) = 8) (
                    let q41 := f_X5_noise (f_L_low p2 3 σ) ((f_L_low (p2 >>> ((2 : Int32) &&& 31)) 7 σ) - 3) σ
                    o_ite (q41.1 ≤ 90) (
                      (0, q41.2)) (
                      (1, q41.2))) (
                    o_ite ((f_L_low p1 14 σ) = 9) (
                      o_ite ((f_L_low p2 4 σ) = 0) (
                        f_L_acts_313 (f_L_low p2 4 σ) (f_L_low (p2 >>> ((2 : Int32) &&& 31)) 41 σ) σ) (
                        o_ite ((f_L_low p2 4 σ) = 1) (
                          f_L_acts_313 (f_L_low p2 4 σ) (f_L_low (p2 >>> ((2 : Int32) &&& 31)) 33 σ) σ) (
                          o_ite ((f_L_low p2 4 σ) = 2) (
                            f_L_acts_313 (f_L_low p2 4 σ) (1 + (f_L_low (p2 >>> ((2 : Int32) &&& 31)) 4080 σ)) σ) (
                            f_L_acts_313 (f_L_low p2 4 σ) ((f_L_low (p2 >>> ((2 : Int32) &&& 31)) 9 σ) - 4) σ)))) (
                      o_ite ((f_L_low p1 14 σ) = 10) (
                        let q51 := f_X5_correct (f_L_low p2 3 σ) (f_L_low (p2 >>> ((2 : Int32) &&& 31)) 8 σ) ((f_L_low (p2 >>> ((5 : Int32) &&& 31)) 41 σ) - 20) σ
                        o_ite (q51.1 ≤ 79) (
                          (0, q51.2)) (
                          (1, q51.2))) (
                        o_ite ((f_L_low p1 14 σ) = 11) (
                          let q53 := f_L_isLearned σ
                          (q53.1, q53.2)) (
                          o_ite ((f_L_low p1 14 σ) = 12) (
                            o_ite ((f_X5_count 6 σ) = (-4)) (
                              f_L_acts_416 0 σ) (
                              f_L_acts_416 1 σ)) (
                            let q57 := f_L_isSampled σ
                            (q57.1, q57.2))))))))))))))
def ok_L_acts (p1 : Int32) (p2 : Int32) (σ : Sg) : Prop :=
  (ok_L_low p1 14 σ) ∧ ((((f_L_low p1 14 σ) = 0) →
    (ok_L_isTurned p2 σ) ∧ (let q3 := f_L_isTurned p2 σ
    (narrow .boolean (.int q3.1) = .int q3.1) ∧ (True))) ∧ (¬ ((f_L_low p1 14 σ) = 0) →
    (((f_L_low p1 14 σ) = 1) →
      (ok_L_isTurned p2 σ) ∧ (let q6 := f_L_isTurned p2 σ
      (narrow .boolean (.int q6.1) = .int q6.1) ∧ (True))) ∧ (¬ ((f_L_low p1 14 σ) = 1) →
      (((f_L_low p1 14 σ) = 2) →
        (ok_L_isTurned p2 σ) ∧ (let q9 := f_L_isTurned p2 σ
        (narrow .boolean (.int q9.1) = .int q9.1) ∧ (True))) ∧ (¬ ((f_L_low p1 14 σ) = 2) →
        (((f_L_low p1 14 σ) = 3) →
          (ok_L_low p2 2 σ) ∧ ((ok_X5_power (f_L_low p2 2 σ) σ) ∧ (let q13 := f_X5_power (f_L_low p2 2 σ) σ
          ((q13.1 < 0) →
            True) ∧ (¬ (q13.1 < 0) →
            True)))) ∧ (¬ ((f_L_low p1 14 σ) = 3) →
          (((f_L_low p1 14 σ) = 4) →
            (ok_L_low p2 9 σ) ∧ ((ok_X5_brownout (1 + (f_L_low p2 9 σ)) σ) ∧ (let q16 := f_X5_brownout (1 + (f_L_low p2 9 σ)) σ
            ((q16.1 = (-1)) →
              True) ∧ (¬ (q16.1 = (-1)) →
              True)))) ∧ (¬ ((f_L_low p1 14 σ) = 4) →
            (((f_L_low p1 14 σ) = 5) →
              (ok_L_low p2 40 σ) ∧ ((ok_X5_charge (f_L_low p2 40 σ) σ) ∧ (let q19 := f_X5_charge (f_L_low p2 40 σ) σ
              ((q19.1 < 0) →
                True) ∧ (¬ (q19.1 < 0) →
                True)))) ∧ (¬ ((f_L_low p1 14 σ) = 5) →
              (((f_L_low p1 14 σ) = 6) →
                (ok_L_low p2 3 σ) ∧ ((ok_L_low (p2 >>> ((6 : Int32) &&& 31)) 19 σ) ∧ (let v22 := ((f_L_low (p2 >>> ((6 : Int32) &&& 31)) 19 σ) - 9)
                (ok_L_low (p2 >>> ((2 : Int32) &&& 31)) 8 σ) ∧ ((ok_X5_disk (f_L_low p2 3 σ) (f_L_low (p2 >>> ((2 : Int32) &&& 31)) 8 σ) v22 σ) ∧ (let q25 := f_X5_disk (f_L_low p2 3 σ) (f_L_low (p2 >>> ((2 : Int32) &&& 31)) 8 σ) v22 σ
                ((q25.1 ≤ 90) →
                  True) ∧ (¬ (q25.1 ≤ 90) →
                  ((110 ≤ q25.1) →
                    True) ∧ (¬ (110 ≤ q25.1) →
                    (ok_L_low (p2 >>> ((2 : Int32) &&& 31)) 8 q25.2) ∧ ((ok_X5_disk (f_L_low p2 3 σ) (f_L_low (p2 >>> ((2 : Int32) &&& 31)) 8 q25.2) v22 q25.2) ∧ (let q28 := f_X5_disk (f_L_low p2 3 σ) (f_L_low (p2 >>> ((2 : Int32) &&& 31)) 8 q25.2) v22 q25.2
                    ((q28.1 = (v22 + 100)) →
                      True) ∧ (¬ (q28.1 = (v22 + 100)) →
                      True)))))))))) ∧ (¬ ((f_L_low p1 14 σ) = 6) →
                (((f_L_low p1 14 σ) = 7) →
                  (ok_L_low p2 3 σ) ∧ ((ok_L_low (p2 >>> ((6 : Int32) &&& 31)) 19 σ) ∧ (let v31 := ((f_L_low (p2 >>> ((6 : Int32) &&& 31)) 19 σ) - 9)
                  (ok_L_low (p2 >>> ((2 : Int32) &&& 31)) 8 σ) ∧ ((ok_X5_disk (f_L_low p2 3 σ) (f_L_low (p2 >>> ((2 : Int32) &&& 31)) 8 σ) v31 σ) ∧ (let q34 := f_X5_disk (f_L_low p2 3 σ) (f_L_low (p2 >>> ((2 : Int32) &&& 31)) 8 σ) v31 σ
                  ((q34.1 ≤ 90) →
                    True) ∧ (¬ (q34.1 ≤ 90) →
                    ((110 ≤ q34.1) →
                      True) ∧ (¬ (110 ≤ q34.1) →
                      (ok_L_low (p2 >>> ((2 : Int32) &&& 31)) 8 q34.2) ∧ ((ok_X5_disk (f_L_low p2 3 σ) (f_L_low (p2 >>> ((2 : Int32) &&& 31)) 8 q34.2) v31 q34.2) ∧ (let q37 := f_X5_disk (f_L_low p2 3 σ) (f_L_low (p2 >>> ((2 : Int32) &&& 31)) 8 q34.2) v31 q34.2
                      ((q37.1 = (v31 + 100)) →
                        True) ∧ (¬ (q37.1 = (v31 + 100)) →
                        True)))))))))) ∧ (¬ ((f_L_low p1 14 σ) = 7) →
                  (((f_L_low p1 14 σ) = 8) →
                    (ok_L_low p2 3 σ) ∧ ((ok_L_low (p2 >>> ((2 : Int32) &&& 31)) 7 σ) ∧ ((ok_X5_noise (f_L_low p2 3 σ) ((f_L_low (p2 >>> ((2 : Int32) &&& 31)) 7 σ) - 3) σ) ∧ (let q41 := f_X5_noise (f_L_low p2 3 σ) ((f_L_low (p2 >>> ((2 : Int32) &&& 31)) 7 σ) - 3) σ
                    ((q41.1 ≤ 90) →
                      True) ∧ (¬ (q41.1 ≤ 90) →
                      True))))) ∧ (¬ ((f_L_low p1 14 σ) = 8) →
                    (((f_L_low p1 14 σ) = 9) →
                      (ok_L_low p2 4 σ) ∧ ((((f_L_low p2 4 σ) = 0) →
                        (ok_L_low (p2 >>> ((2 : Int32) &&& 31)) 41 σ) ∧ (ok_L_acts_313 (f_L_low p2 4 σ) (f_L_low (p2 >>> ((2 : Int32) &&& 31)) 41 σ) σ)) ∧ (¬ ((f_L_low p2 4 σ) = 0) →
                        (((f_L_low p2 4 σ) = 1) →
                          (ok_L_low (p2 >>> ((2 : Int32) &&& 31)) 33 σ) ∧ (ok_L_acts_313 (f_L_low p2 4 σ) (f_L_low (p2 >>> ((2 : Int32) &&& 31)) 33 σ) σ)) ∧ (¬ ((f_L_low p2 4 σ) = 1) →
                          (((f_L_low p2 4 σ) = 2) →
                            (ok_L_low (p2 >>> ((2 : Int32) &&& 31)) 4080 σ) ∧ (ok_L_acts_313 (f_L_low p2 4 σ) (1 + (f_L_low (p2 >>> ((2 : Int32) &&& 31)) 4080 σ)) σ)) ∧ (¬ ((f_L_low p2 4 σ) = 2) →
                            (ok_L_low (p2 >>> ((2 : Int32) &&& 31)) 9 σ) ∧ (ok_L_acts_313 (f_L_low p2 4 σ) ((f_L_low (p2 >>> ((2 : Int32) &&& 31)) 9 σ) - 4) σ)))))) ∧ (¬ ((f_L_low p1 14 σ) = 9) →
                      (((f_L_low p1 14 σ) = 10) →
                        (ok_L_low p2 3 σ) ∧ ((ok_L_low (p2 >>> ((2 : Int32) &&& 31)) 8 σ) ∧ ((ok_L_low (p2 >>> ((5 : Int32) &&& 31)) 41 σ) ∧ ((ok_X5_correct (f_L_low p2 3 σ) (f_L_low (p2 >>> ((2 : Int32) &&& 31)) 8 σ) ((f_L_low (p2 >>> ((5 : Int32) &&& 31)) 41 σ) - 20) σ) ∧ (let q51 := f_X5_correct (f_L_low p2 3 σ) (f_L_low (p2 >>> ((2 : Int32) &&& 31)) 8 σ) ((f_L_low (p2 >>> ((5 : Int32) &&& 31)) 41 σ) - 20) σ
                        ((q51.1 ≤ 79) →
                          True) ∧ (¬ (q51.1 ≤ 79) →
                          True)))))) ∧ (¬ ((f_L_low p1 14 σ) = 10) →
                        (((f_L_low p1 14 σ) = 11) →
                          (ok_L_isLearned σ) ∧ (let q53 := f_L_isLearned σ
                          (narrow .boolean (.int q53.1) = .int q53.1) ∧ (True))) ∧ (¬ ((f_L_low p1 14 σ) = 11) →
                          (((f_L_low p1 14 σ) = 12) →
                            (ok_X5_count 6 σ) ∧ ((((f_X5_count 6 σ) = (-4)) →
                              ok_L_acts_416 0 σ) ∧ (¬ ((f_X5_count 6 σ) = (-4)) →
                              ok_L_acts_416 1 σ))) ∧ (¬ ((f_L_low p1 14 σ) = 12) →
                            (ok_L_isSampled σ) ∧ (let q57 := f_L_isSampled σ
                            (narrow .boolean (.int q57.1) = .int q57.1) ∧ (True))))))))))))))))
set_option maxHeartbeats 4000000 in
set_option maxRecDepth 100000 in
theorem t_L_acts_416 {p : Program} {l : Launch} {e : Env} {s : State} {m : MethodId} {args : Array Value} {below : List Frame} {meth : Method} {c : Code} {G : Gt} {post : Int32 → Sg → Prop}  (hG : gN G = 34) (hc : o_Cx p s m args meth c G cL_acts yL_acts.cls 6) (hr : meth.sig.returnType = (some .boolean)) {y0 : Int32} {σ : Sg} (hok : ok_L_acts_416  y0 σ) (hq : ∀ q : Int32 × Sg, q = f_L_acts_416  y0 σ → post q.1 q.2) : o_V p l e { frames := 8, cells := 1, slots := 3, locals := 198 } s m args below meth c (MQ below (va_Qi post (fun σ' t => o_W G σ' t.heap) (o_A G)) args s 1 3 (o_A G)) G 0 0 6 σ 416 [(0, .ref (gAd G 0))] [.int y0] := by
  refine r_istore_n (pc := 416) (lv' := [(3, _), (0, _)]) hc dL_acts_416 rfl (by decide) rfl ?_
  refine r_aload_n (pc := 417) hc 1 dL_acts_417 rfl rfl ?_
  obtain ⟨hs1, hok⟩ := hok
  refine r_callV_i (pc := 418) (as := []) hc (c_X5_forget l _ hs1) kk5 (o_lt hc (by decide)) rfl mV_X5_forget kM_L_124 ⟨Nat.le_of_ble_eq_true rfl, Nat.le_of_ble_eq_true rfl⟩ ⟨Nat.le_of_ble_eq_true rfl, Nat.le_of_ble_eq_true rfl⟩ rfl rfl (Nat.le_of_ble_eq_true rfl) dL_acts_418 (fun r σ' h => ?_)
  obtain ⟨rfl, rfl⟩ := h
  refine r_iload_n (pc := 421) hc 0 dL_acts_421 rfl rfl ?_
  refine r_icmp_ne (pc := 422) (tgt := 449) hc dL_acts_422 (by decide) (fun c422 => ?_) (fun c422 => ?_)
  · have hok := hok.2 c422
    have hq := o_qn hq c422
    refine r_iconst (pc := 449) (v := 0) hc dL_acts_449 rfl ?_
    refine o_V.widen (k := 1) (n := 3) (Nat.le_of_ble_eq_true rfl) (Nat.le_of_ble_eq_true rfl) ?_
    exact r_iret hc hr rfl dL_acts_450 (hq (_, _) rfl)
  · have hok := hok.1 c422
    have hq := o_qp hq c422
    refine r_aload_n (pc := 425) hc 1 dL_acts_425 rfl rfl ?_
    refine r_bipush (pc := 426) (v := 6) hc dL_acts_426 (by decide) ?_
    obtain ⟨hs3, hok⟩ := hok
    refine r_callV_i (pc := 428) (as := [.int _]) hc (c_X5_count l _ hs3) kk5 (o_lt hc (by decide)) rfl mV_X5_count kM_L_19 ⟨Nat.le_of_ble_eq_true rfl, Nat.le_of_ble_eq_true rfl⟩ ⟨Nat.le_of_ble_eq_true rfl, Nat.le_of_ble_eq_true rfl⟩ rfl rfl (Nat.le_of_ble_eq_true rfl) dL_acts_428 (fun r σ' h => ?_)
    obtain ⟨rfl, hz⟩ := h
    have hz := hz.symm
    subst hz
    refine r_bipush (pc := 431) (v := (-4)) hc dL_acts_431 (by decide) ?_
    refine r_icmp_ne (pc := 433) (tgt := 449) hc dL_acts_433 (by decide) (fun c433 => ?_) (fun c433 => ?_)
    · have hok := hok.2 c433
      have hq := o_qn hq c433
      refine r_iconst (pc := 449) (v := 0) hc dL_acts_449 rfl ?_
      refine o_V.widen (k := 1) (n := 3) (Nat.le_of_ble_eq_true rfl) (Nat.le_of_ble_eq_true rfl) ?_
      exact r_iret hc hr rfl dL_acts_450 (hq (_, _) rfl)
    · have hok := hok.1 c433
      have hq := o_qp hq c433
      refine r_aload_n (pc := 436) hc 1 dL_acts_436 rfl rfl ?_
      refine r_bipush (pc := 437) (v := 7) hc dL_acts_437 (by decide) ?_
      obtain ⟨hs4, hok⟩ := hok
      refine r_callV_i (pc := 439) (as := [.int _]) hc (c_X5_count l _ hs4) kk5 (o_lt hc (by decide)) rfl mV_X5_count kM_L_19 ⟨Nat.le_of_ble_eq_true rfl, Nat.le_of_ble_eq_true rfl⟩ ⟨Nat.le_of_ble_eq_true rfl, Nat.le_of_ble_eq_true rfl⟩ rfl rfl (Nat.le_of_ble_eq_true rfl) dL_acts_439 (fun r σ' h => ?_)
      obtain ⟨rfl, hz⟩ := h
      have hz := hz.symm
      subst hz
      refine r_if_ne (pc := 442) (tgt := 449) hc dL_acts_442 (by decide) (fun c442 => ?_) (fun c442 => ?_)
      · have hok := hok.2 c442
        have hq := o_qn hq c442
        refine r_iconst (pc := 449) (v := 0) hc dL_acts_449 rfl ?_
        refine o_V.widen (k := 1) (n := 3) (Nat.le_of_ble_eq_true rfl) (Nat.le_of_ble_eq_true rfl) ?_
        exact r_iret hc hr rfl dL_acts_450 (hq (_, _) rfl)
      · have hok := hok.1 c442
        have hq := o_qp hq c442
        refine r_iconst (pc := 445) (v := 1) hc dL_acts_445 rfl ?_
        refine r_goto (pc := 446) (tgt := 450) hc dL_acts_446 (by decide) ?_
        refine o_V.widen (k := 1) (n := 3) (Nat.le_of_ble_eq_true rfl) (Nat.le_of_ble_eq_true rfl) ?_
        exact r_iret hc hr rfl dL_acts_450 (hq (_, _) rfl)
set_option maxHeartbeats 4000000 in
set_option maxRecDepth 100000 in
theorem t_L_acts_346 {p : Program} {l : Launch} {e : Env} {s : State} {m : MethodId} {args : Array Value} {below : List Frame} {meth : Method} {c : Code} {G : Gt} {post : Int32 → Sg → Prop}  (hG : gN G = 34) (hc : o_Cx p s m args meth c G cL_acts yL_acts.cls 6) (hr : meth.sig.returnType = (some .boolean)) {y0 : Int32} {y1 : Int32} {y2 : Int32} {σ : Sg} (hok : ok_L_acts_346  y0 y1 y2 σ) (hq : ∀ q : Int32 × Sg, q = f_L_acts_346  y0 y1 y2 σ → post q.1 q.2) : o_V p l e { frames := 8, cells := 1, slots := 3, locals := 198 } s m args below meth c (MQ below (va_Qi post (fun σ' t => o_W G σ' t.heap) (o_A G)) args s 1 3 (o_A G)) G 0 0 6 σ 346 [] [.int y0, .int y1, .int y2] := by
  refine r_iadd (pc := 346) hc dL_acts_346 ?_
  refine r_icmp_ne (pc := 347) (tgt := 354) hc dL_acts_347 (by decide) (fun c347 => ?_) (fun c347 => ?_)
  · have hok := hok.2 c347
    have hq := o_qn hq c347
    refine r_iconst (pc := 354) (v := 0) hc dL_acts_354 rfl ?_
    refine o_V.widen (k := 1) (n := 3) (Nat.le_of_ble_eq_true rfl) (Nat.le_of_ble_eq_true rfl) ?_
    exact r_iret hc hr rfl dL_acts_355 (hq (_, _) rfl)
  · have hok := hok.1 c347
    have hq := o_qp hq c347
    refine r_iconst (pc := 350) (v := 1) hc dL_acts_350 rfl ?_
    refine r_goto (pc := 351) (tgt := 355) hc dL_acts_351 (by decide) ?_
    refine o_V.widen (k := 1) (n := 3) (Nat.le_of_ble_eq_true rfl) (Nat.le_of_ble_eq_true rfl) ?_
    exact r_iret hc hr rfl dL_acts_355 (hq (_, _) rfl)
set_option maxHeartbeats 4000000 in
set_option maxRecDepth 100000 in
theorem t_L_acts_313 {p : Program} {l : Launch} {e : Env} {s : State} {m : MethodId} {args : Array Value} {below : List Frame} {meth : Method} {c : Code} {G : Gt} {post : Int32 → Sg → Prop}  (hG : gN G = 34) (hc : o_Cx p s m args meth c G cL_acts yL_acts.cls 6) (hr : meth.sig.returnType = (some .boolean)) {x3 : Int32} {y0 : Int32} {σ : Sg} (hok : ok_L_acts_313  x3 y0 σ) (hq : ∀ q : Int32 × Sg, q = f_L_acts_313  x3 y0 σ → post q.1 q.2) : o_V p l e { frames := 8, cells := 1, slots := 3, locals := 198 } s m args below meth c (MQ below (va_Qi post (fun σ' t => o_W G σ' t.heap) (o_A G)) args s 1 3 (o_A G)) G 0 0 6 σ 313 [(0, .ref (gAd G 0)), (3, .int x3)] [.int y0] := by
  refine r_istore (pc := 313) (lv' := [(4, _), (0, _), (3, _)]) hc dL_acts_313 (by decide) rfl ?_
  refine r_aload_n (pc := 315) hc 1 dL_acts_315 rfl rfl ?_
  refine r_iload_n (pc := 316) hc 2 dL_acts_316 rfl rfl ?_
  refine r_iload (pc := 317) hc 0 dL_acts_317 rfl ?_
  obtain ⟨hs1, hok⟩ := hok
  refine r_callV_i (pc := 319) (as := [.int _, .int _]) hc (c_X5_set l _ hs1) kk5 (o_lt hc (by decide)) rfl mV_X5_set kM_L_60 ⟨Nat.le_of_ble_eq_true rfl, Nat.le_of_ble_eq_true rfl⟩ ⟨Nat.le_of_ble_eq_true rfl, Nat.le_of_ble_eq_true rfl⟩ rfl rfl (Nat.le_of_ble_eq_true rfl) dL_acts_319 (fun r σ' h => ?_)
  obtain ⟨rfl, rfl⟩ := h
  refine r_if_lt (pc := 322) (tgt := 354) hc dL_acts_322 (by decide) (fun c322 => ?_) (fun c322 => ?_)
  · have hok := hok.1 c322
    have hq := o_qp hq c322
    refine r_iconst (pc := 354) (v := 0) hc dL_acts_354 rfl ?_
    refine o_V.widen (k := 1) (n := 3) (Nat.le_of_ble_eq_true rfl) (Nat.le_of_ble_eq_true rfl) ?_
    exact r_iret hc hr rfl dL_acts_355 (hq (_, _) rfl)
  · have hok := hok.2 c322
    have hq := o_qn hq c322
    refine r_aload_n (pc := 325) hc 1 dL_acts_325 rfl rfl ?_
    refine r_bipush (pc := 326) (v := 20) hc dL_acts_326 (by decide) ?_
    refine r_iload_n (pc := 328) hc 2 dL_acts_328 rfl rfl ?_
    refine r_iadd (pc := 329) hc dL_acts_329 ?_
    obtain ⟨hs3, hok⟩ := hok
    refine r_callV_i (pc := 330) (as := [.int _]) hc (c_X5_count l _ hs3) kk5 (o_lt hc (by decide)) rfl mV_X5_count kM_L_19 ⟨Nat.le_of_ble_eq_true rfl, Nat.le_of_ble_eq_true rfl⟩ ⟨Nat.le_of_ble_eq_true rfl, Nat.le_of_ble_eq_true rfl⟩ rfl rfl (Nat.le_of_ble_eq_true rfl) dL_acts_330 (fun r σ' h => ?_)
    obtain ⟨rfl, hz⟩ := h
    have hz := hz.symm
    subst hz
    refine r_iload (pc := 333) hc 0 dL_acts_333 rfl ?_
    refine r_iload_n (pc := 335) hc 2 dL_acts_335 rfl rfl ?_
    refine r_iconst (pc := 336) (v := 3) hc dL_acts_336 rfl ?_
    refine r_icmp_ne (pc := 337) (tgt := 345) hc dL_acts_337 (by decide) (fun c337 => ?_) (fun c337 => ?_)
    · have hok := hok.2 c337
      have hq := o_qn hq c337
      refine r_iconst (pc := 345) (v := 0) hc dL_acts_345 rfl ?_
      exact o_V.sub (t_L_acts_346 hG hc hr hok hq) [] rfl
    · have hok := hok.1 c337
      have hq := o_qp hq c337
      refine r_bipush (pc := 340) (v := 100) hc dL_acts_340 (by decide) ?_
      refine r_goto (pc := 342) (tgt := 346) hc dL_acts_342 (by decide) ?_
      exact o_V.sub (t_L_acts_346 hG hc hr hok hq) [] rfl
set_option maxHeartbeats 4000000 in
set_option maxRecDepth 100000 in
theorem c_L_acts (l : Launch) (G : Gt) {p1 : Int32} {p2 : Int32} (hG : gN G = 34) {σ : Sg} (hok : ok_L_acts p1 p2 σ) : o_Cim l G yL_acts cL_acts 6 (some .boolean) 8 198 1 3 [.ref (gAd G 0), .int p1, .int p2] σ (fun r σ' => r = (f_L_acts p1 p2 σ).1 ∧ σ' = (f_L_acts p1 p2 σ).2) := by
  refine o_Cim.of (by decide +kernel) (Nat.le_of_ble_eq_true rfl) ?_
  intro p e s m args below meth c hc hr
  have hq : ∀ q : Int32 × Sg, q = f_L_acts p1 p2 σ → (fun r σ' => r = (f_L_acts p1 p2 σ).1 ∧ σ' = (f_L_acts p1 p2 σ).2) q.1 q.2 := fun q h => ⟨congrArg Prod.fst h, congrArg Prod.snd h⟩
  refine r_iload_n (pc := 0) hc 1 dL_acts_0 rfl rfl ?_
  refine r_bipush (pc := 1) (v := 14) hc dL_acts_1 (by decide) ?_
  obtain ⟨hs1, hok⟩ := hok
  refine r_callS_i (pc := 3) (as := [.int _, .int _]) hc (c_L_low l _ hs1) mS_L_low kM_L_106 ⟨Nat.le_of_ble_eq_true rfl, Nat.le_of_ble_eq_true rfl⟩ ⟨Nat.le_of_ble_eq_true rfl, Nat.le_of_ble_eq_true rfl⟩ rfl rfl (Nat.le_of_ble_eq_true rfl) dL_acts_3 (fun r σ' h => ?_)
  obtain ⟨rfl, hz⟩ := h
  have hz := hz.symm
  subst hz
  refine o_cs ((f_L_low p1 14 σ) = 0) (fun s6_0 => ?_) (fun s6_0 => ?_)
  · have hok := hok.1 s6_0
    have hq := o_qp hq s6_0
    refine r_tabIn (pc := 6) (tgt := 72) (k := 0) (off := 66) hc dL_acts_6 s6_0 (by decide) (by decide) (by decide) (by decide) ?_
    refine r_aload_n (pc := 72) hc 0 dL_acts_72 rfl rfl ?_
    refine r_iload_n (pc := 73) hc 2 dL_acts_73 rfl rfl ?_
    obtain ⟨hs2, hok⟩ := hok
    refine r_callS_i (pc := 74) (as := [.ref (gAd G _), .int _]) hc (c_L_isTurned l _ hs2) mS_L_isTurned kM_L_116 ⟨Nat.le_of_ble_eq_true rfl, Nat.le_of_ble_eq_true rfl⟩ ⟨Nat.le_of_ble_eq_true rfl, Nat.le_of_ble_eq_true rfl⟩ rfl rfl (Nat.le_of_ble_eq_true rfl) dL_acts_74 (fun r σ' h => ?_)
    obtain ⟨rfl, rfl⟩ := h
    obtain ⟨hs4, hok⟩ := hok
    refine o_V.widen (k := 1) (n := 3) (Nat.le_of_ble_eq_true rfl) (Nat.le_of_ble_eq_true rfl) ?_
    exact r_iret hc hr hs4 dL_acts_77 (hq (_, _) rfl)
  have hok := hok.2 s6_0
  have hq := o_qn hq s6_0
  refine o_cs ((f_L_low p1 14 σ) = 1) (fun s6_1 => ?_) (fun s6_1 => ?_)
  · have hok := hok.1 s6_1
    have hq := o_qp hq s6_1
    refine r_tabIn (pc := 6) (tgt := 72) (k := 1) (off := 66) hc dL_acts_6 s6_1 (by decide) (by decide) (by decide) (by decide) ?_
    refine r_aload_n (pc := 72) hc 0 dL_acts_72 rfl rfl ?_
    refine r_iload_n (pc := 73) hc 2 dL_acts_73 rfl rfl ?_
    obtain ⟨hs5, hok⟩ := hok
    refine r_callS_i (pc := 74) (as := [.ref (gAd G _), .int _]) hc (c_L_isTurned l _ hs5) mS_L_isTurned kM_L_116 ⟨Nat.le_of_ble_eq_true rfl, Nat.le_of_ble_eq_true rfl⟩ ⟨Nat.le_of_ble_eq_true rfl, Nat.le_of_ble_eq_true rfl⟩ rfl rfl (Nat.le_of_ble_eq_true rfl) dL_acts_74 (fun r σ' h => ?_)
    obtain ⟨rfl, rfl⟩ := h
    obtain ⟨hs7, hok⟩ := hok
    refine o_V.widen (k := 1) (n := 3) (Nat.le_of_ble_eq_true rfl) (Nat.le_of_ble_eq_true rfl) ?_
    exact r_iret hc hr hs7 dL_acts_77 (hq (_, _) rfl)
  have hok := hok.2 s6_1
  have hq := o_qn hq s6_1
  refine o_cs ((f_L_low p1 14 σ) = 2) (fun s6_2 => ?_) (fun s6_2 => ?_)
  · have hok := hok.1 s6_2
    have hq := o_qp hq s6_2
    refine r_tabIn (pc := 6) (tgt := 72) (k := 2) (off := 66) hc dL_acts_6 s6_2 (by decide) (by decide) (by decide) (by decide) ?_
    refine r_aload_n (pc := 72) hc 0 dL_acts_72 rfl rfl ?_
    refine r_iload_n (pc := 73) hc 2 dL_acts_73 rfl rfl ?_
    obtain ⟨hs8, hok⟩ := hok
    refine r_callS_i (pc := 74) (as := [.ref (gAd G _), .int _]) hc (c_L_isTurned l _ hs8) mS_L_isTurned kM_L_116 ⟨Nat.le_of_ble_eq_true rfl, Nat.le_of_ble_eq_true rfl⟩ ⟨Nat.le_of_ble_eq_true rfl, Nat.le_of_ble_eq_true rfl⟩ rfl rfl (Nat.le_of_ble_eq_true rfl) dL_acts_74 (fun r σ' h => ?_)
    obtain ⟨rfl, rfl⟩ := h
    obtain ⟨hs10, hok⟩ := hok
    refine o_V.widen (k := 1) (n := 3) (Nat.le_of_ble_eq_true rfl) (Nat.le_of_ble_eq_true rfl) ?_
    exact r_iret hc hr hs10 dL_acts_77 (hq (_, _) rfl)
  have hok := hok.2 s6_2
  have hq := o_qn hq s6_2
  refine o_cs ((f_L_low p1 14 σ) = 3) (fun s6_3 => ?_) (fun s6_3 => ?_)
  · have hok := hok.1 s6_3
    have hq := o_qp hq s6_3
    refine r_tabIn (pc := 6) (tgt := 78) (k := 3) (off := 72) hc dL_acts_6 s6_3 (by decide) (by decide) (by decide) (by decide) ?_
    refine r_aload_n (pc := 78) hc 0 dL_acts_78 rfl rfl ?_
    refine r_iload_n (pc := 79) hc 2 dL_acts_79 rfl rfl ?_
    refine r_iconst (pc := 80) (v := 2) hc dL_acts_80 rfl ?_
    obtain ⟨hs11, hok⟩ := hok
    refine r_callS_i (pc := 81) (as := [.int _, .int _]) hc (c_L_low l _ hs11) mS_L_low kM_L_106 ⟨Nat.le_of_ble_eq_true rfl, Nat.le_of_ble_eq_true rfl⟩ ⟨Nat.le_of_ble_eq_true rfl, Nat.le_of_ble_eq_true rfl⟩ rfl rfl (Nat.le_of_ble_eq_true rfl) dL_acts_81 (fun r σ' h => ?_)
    obtain ⟨rfl, hz⟩ := h
    have hz := hz.symm
    subst hz
    obtain ⟨hs12, hok⟩ := hok
    refine r_callV_i (pc := 84) (as := [.int _]) hc (c_X5_power l _ hs12) kk5 (o_lt hc (by decide)) rfl mV_X5_power kM_L_44 ⟨Nat.le_of_ble_eq_true rfl, Nat.le_of_ble_eq_true rfl⟩ ⟨Nat.le_of_ble_eq_true rfl, Nat.le_of_ble_eq_true rfl⟩ rfl rfl (Nat.le_of_ble_eq_true rfl) dL_acts_84 (fun r σ' h => ?_)
    obtain ⟨rfl, rfl⟩ := h
    refine r_if_lt (pc := 87) (tgt := 94) hc dL_acts_87 (by decide) (fun c87 => ?_) (fun c87 => ?_)
    · have hok := hok.1 c87
      have hq := o_qp hq c87
      refine r_iconst (pc := 94) (v := 0) hc dL_acts_94 rfl ?_
      refine o_V.widen (k := 1) (n := 3) (Nat.le_of_ble_eq_true rfl) (Nat.le_of_ble_eq_true rfl) ?_
      exact r_iret hc hr rfl dL_acts_95 (hq (_, _) rfl)
    · have hok := hok.2 c87
      have hq := o_qn hq c87
      refine r_iconst (pc := 90) (v := 1) hc dL_acts_90 rfl ?_
      refine r_goto (pc := 91) (tgt := 95) hc dL_acts_91 (by decide) ?_
      refine o_V.widen (k := 1) (n := 3) (Nat.le_of_ble_eq_true rfl) (Nat.le_of_ble_eq_true rfl) ?_
      exact r_iret hc hr rfl dL_acts_95 (hq (_, _) rfl)
  have hok := hok.2 s6_3
  have hq := o_qn hq s6_3
  refine o_cs ((f_L_low p1 14 σ) = 4) (fun s6_4 => ?_) (fun s6_4 => ?_)
  · have hok := hok.1 s6_4
    have hq := o_qp hq s6_4
    refine r_tabIn (pc := 6) (tgt := 96) (k := 4) (off := 90) hc dL_acts_6 s6_4 (by decide) (by decide) (by decide) (by decide) ?_
    refine r_aload_n (pc := 96) hc 0 dL_acts_96 rfl rfl ?_
    refine r_iconst (pc := 97) (v := 1) hc dL_acts_97 rfl ?_
    refine r_iload_n (pc := 98) hc 2 dL_acts_98 rfl rfl ?_
    refine r_bipush (pc := 99) (v := 9) hc dL_acts_99 (by decide) ?_
    obtain ⟨hs14, hok⟩ := hok
    refine r_callS_i (pc := 101) (as := [.int _, .int _]) hc (c_L_low l _ hs14) mS_L_low kM_L_106 ⟨Nat.le_of_ble_eq_true rfl, Nat.le_of_ble_eq_true rfl⟩ ⟨Nat.le_of_ble_eq_true rfl, Nat.le_of_ble_eq_true rfl⟩ rfl rfl (Nat.le_of_ble_eq_true rfl) dL_acts_101 (fun r σ' h => ?_)
    obtain ⟨rfl, hz⟩ := h
    have hz := hz.symm
    subst hz
    refine r_iadd (pc := 104) hc dL_acts_104 ?_
    obtain ⟨hs15, hok⟩ := hok
    refine r_callV_i (pc := 105) (as := [.int _]) hc (c_X5_brownout l _ hs15) kk5 (o_lt hc (by decide)) rfl mV_X5_brownout kM_L_47 ⟨Nat.le_of_ble_eq_true rfl, Nat.le_of_ble_eq_true rfl⟩ ⟨Nat.le_of_ble_eq_true rfl, Nat.le_of_ble_eq_true rfl⟩ rfl rfl (Nat.le_of_ble_eq_true rfl) dL_acts_105 (fun r σ' h => ?_)
    obtain ⟨rfl, rfl⟩ := h
    refine r_iconst (pc := 108) (v := (-1)) hc dL_acts_108 rfl ?_
    refine r_icmp_eq (pc := 109) (tgt := 116) hc dL_acts_109 (by decide) (fun c109 => ?_) (fun c109 => ?_)
    · have hok := hok.1 c109
      have hq := o_qp hq c109
      refine r_iconst (pc := 116) (v := 0) hc dL_acts_116 rfl ?_
      refine o_V.widen (k := 1) (n := 3) (Nat.le_of_ble_eq_true rfl) (Nat.le_of_ble_eq_true rfl) ?_
      exact r_iret hc hr rfl dL_acts_117 (hq (_, _) rfl)
    · have hok := hok.2 c109
      have hq := o_qn hq c109
      refine r_iconst (pc := 112) (v := 1) hc dL_acts_112 rfl ?_
      refine r_goto (pc := 113) (tgt := 117) hc dL_acts_113 (by decide) ?_
      refine o_V.widen (k := 1) (n := 3) (Nat.le_of_ble_eq_true rfl) (Nat.le_of_ble_eq_true rfl) ?_
      exact r_iret hc hr rfl dL_acts_117 (hq (_, _) rfl)
  have hok := hok.2 s6_4
  have hq := o_qn hq s6_4
  refine o_cs ((f_L_low p1 14 σ) = 5) (fun s6_5 => ?_) (fun s6_5 => ?_)
  · have hok := hok.1 s6_5
    have hq := o_qp hq s6_5
    refine r_tabIn (pc := 6) (tgt := 118) (k := 5) (off := 112) hc dL_acts_6 s6_5 (by decide) (by decide) (by decide) (by decide) ?_
    refine r_aload_n (pc := 118) hc 0 dL_acts_118 rfl rfl ?_
    refine r_iload_n (pc := 119) hc 2 dL_acts_119 rfl rfl ?_
    refine r_bipush (pc := 120) (v := 40) hc dL_acts_120 (by decide) ?_
    obtain ⟨hs17, hok⟩ := hok
    refine r_callS_i (pc := 122) (as := [.int _, .int _]) hc (c_L_low l _ hs17) mS_L_low kM_L_106 ⟨Nat.le_of_ble_eq_true rfl, Nat.le_of_ble_eq_true rfl⟩ ⟨Nat.le_of_ble_eq_true rfl, Nat.le_of_ble_eq_true rfl⟩ rfl rfl (Nat.le_of_ble_eq_true rfl) dL_acts_122 (fun r σ' h => ?_)
    obtain ⟨rfl, hz⟩ := h
    have hz := hz.symm
    subst hz
    obtain ⟨hs18, hok⟩ := hok
    refine r_callV_i (pc := 125) (as := [.int _]) hc (c_X5_charge l _ hs18) kk5 (o_lt hc (by decide)) rfl mV_X5_charge kM_L_50 ⟨Nat.le_of_ble_eq_true rfl, Nat.le_of_ble_eq_true rfl⟩ ⟨Nat.le_of_ble_eq_true rfl, Nat.le_of_ble_eq_true rfl⟩ rfl rfl (Nat.le_of_ble_eq_true rfl) dL_acts_125 (fun r σ' h => ?_)
    obtain ⟨rfl, rfl⟩ := h
    refine r_if_lt (pc := 128) (tgt := 135) hc dL_acts_128 (by decide) (fun c128 => ?_) (fun c128 => ?_)
    · have hok := hok.1 c128
      have hq := o_qp hq c128
      refine r_iconst (pc := 135) (v := 0) hc dL_acts_135 rfl ?_
      refine o_V.widen (k := 1) (n := 3) (Nat.le_of_ble_eq_true rfl) (Nat.le_of_ble_eq_true rfl) ?_
      exact r_iret hc hr rfl dL_acts_136 (hq (_, _) rfl)
    · have hok := hok.2 c128
      have hq := o_qn hq c128
      refine r_iconst (pc := 131) (v := 1) hc dL_acts_131 rfl ?_
      refine r_goto (pc := 132) (tgt := 136) hc dL_acts_132 (by decide) ?_
      refine o_V.widen (k := 1) (n := 3) (Nat.le_of_ble_eq_true rfl) (Nat.le_of_ble_eq_true rfl) ?_
      exact r_iret hc hr rfl dL_acts_136 (hq (_, _) rfl)
  have hok := hok.2 s6_5
  have hq := o_qn hq s6_5
  refine o_cs ((f_L_low p1 14 σ) = 6) (fun s6_6 => ?_) (fun s6_6 => ?_)
  · have hok := hok.1 s6_6
    have hq := o_qp hq s6_6
    refine r_tabIn (pc := 6) (tgt := 137) (k := 6) (off := 131) hc dL_acts_6 s6_6 (by decide) (by decide) (by decide) (by decide) ?_
    refine r_iload_n (pc := 137) hc 2 dL_acts_137 rfl rfl ?_
    refine r_iconst (pc := 138) (v := 3) hc dL_acts_138 rfl ?_
    obtain ⟨hs20, hok⟩ := hok
    refine r_callS_i (pc := 139) (as := [.int _, .int _]) hc (c_L_low l _ hs20) mS_L_low kM_L_106 ⟨Nat.le_of_ble_eq_true rfl, Nat.le_of_ble_eq_true rfl⟩ ⟨Nat.le_of_ble_eq_true rfl, Nat.le_of_ble_eq_true rfl⟩ rfl rfl (Nat.le_of_ble_eq_true rfl) dL_acts_139 (fun r σ' h => ?_)
    obtain ⟨rfl, hz⟩ := h
    have hz := hz.symm
    subst hz
    refine r_istore_n (pc := 142) (lv' := [(3, _), (0, _), (1, _), (2, _)]) hc dL_acts_142 rfl (by decide) rfl ?_
    refine r_iload_n (pc := 143) hc 3 dL_acts_143 rfl rfl ?_
    refine r_bipush (pc := 144) (v := 6) hc dL_acts_144 (by decide) ?_
    refine r_ishr (pc := 146) hc dL_acts_146 ?_
    refine r_bipush (pc := 147) (v := 19) hc dL_acts_147 (by decide) ?_
    obtain ⟨hs21, hok⟩ := hok
    refine r_callS_i (pc := 149) (as := [.int _, .int _]) hc (c_L_low l _ hs21) mS_L_low kM_L_106 ⟨Nat.le_of_ble_eq_true rfl, Nat.le_of_ble_eq_true rfl⟩ ⟨Nat.le_of_ble_eq_true rfl, Nat.le_of_ble_eq_true rfl⟩ rfl rfl (Nat.le_of_ble_eq_true rfl) dL_acts_149 (fun r σ' h => ?_)
    obtain ⟨rfl, hz⟩ := h
    have hz := hz.symm
    subst hz
    refine r_bipush (pc := 152) (v := 9) hc dL_acts_152 (by decide) ?_
    refine r_isub (pc := 154) hc dL_acts_154 ?_
    refine r_istore (pc := 155) (lv' := [(4, _), (3, _), (0, _), (1, _), (2, _)]) hc dL_acts_155 (by decide) rfl ?_
    refine r_aload_n (pc := 157) hc 2 dL_acts_157 rfl rfl ?_
    refine r_iload_n (pc := 158) hc 1 dL_acts_158 rfl rfl ?_
    refine r_iload_n (pc := 159) hc 4 dL_acts_159 rfl rfl ?_
    refine r_iconst (pc := 160) (v := 2) hc dL_acts_160 rfl ?_
    refine r_ishr (pc := 161) hc dL_acts_161 ?_
    refine r_bipush (pc := 162) (v := 8) hc dL_acts_162 (by decide) ?_
    obtain ⟨hs23, hok⟩ := hok
    refine r_callS_i (pc := 164) (as := [.int _, .int _]) hc (c_L_low l _ hs23) mS_L_low kM_L_106 ⟨Nat.le_of_ble_eq_true rfl, Nat.le_of_ble_eq_true rfl⟩ ⟨Nat.le_of_ble_eq_true rfl, Nat.le_of_ble_eq_true rfl⟩ rfl rfl (Nat.le_of_ble_eq_true rfl) dL_acts_164 (fun r σ' h => ?_)
    obtain ⟨rfl, hz⟩ := h
    have hz := hz.symm
    subst hz
    refine r_iload (pc := 167) hc 0 dL_acts_167 rfl ?_
    obtain ⟨hs24, hok⟩ := hok
    refine r_callV_i (pc := 169) (as := [.int _, .int _, .int _]) hc (c_X5_disk l _ hs24) kk5 (o_lt hc (by decide)) rfl mV_X5_disk kM_L_53 ⟨Nat.le_of_ble_eq_true rfl, Nat.le_of_ble_eq_true rfl⟩ ⟨Nat.le_of_ble_eq_true rfl, Nat.le_of_ble_eq_true rfl⟩ rfl rfl (Nat.le_of_ble_eq_true rfl) dL_acts_169 (fun r σ' h => ?_)
    obtain ⟨rfl, rfl⟩ := h
    refine r_istore (pc := 172) (lv' := [(5, _), (4, _), (3, _), (0, _), (1, _), (2, _)]) hc dL_acts_172 (by decide) rfl ?_
    refine r_iload (pc := 174) hc 0 dL_acts_174 rfl ?_
    refine r_bipush (pc := 176) (v := 90) hc dL_acts_176 (by decide) ?_
    refine r_icmp_le (pc := 178) (tgt := 215) hc dL_acts_178 (by decide) (fun c178 => ?_) (fun c178 => ?_)
    · have hok := hok.1 c178
      have hq := o_qp hq c178
      refine r_iconst (pc := 215) (v := 0) hc dL_acts_215 rfl ?_
      refine o_V.widen (k := 1) (n := 3) (Nat.le_of_ble_eq_true rfl) (Nat.le_of_ble_eq_true rfl) ?_
      exact r_iret hc hr rfl dL_acts_216 (hq (_, _) rfl)
    · have hok := hok.2 c178
      have hq := o_qn hq c178
      refine r_iload (pc := 181) hc 0 dL_acts_181 rfl ?_
      refine r_bipush (pc := 183) (v := 110) hc dL_acts_183 (by decide) ?_
      refine r_icmp_ge (pc := 185) (tgt := 215) hc dL_acts_185 (by decide) (fun c185 => ?_) (fun c185 => ?_)
      · have hok := hok.1 c185
        have hq := o_qp hq c185
        refine r_iconst (pc := 215) (v := 0) hc dL_acts_215 rfl ?_
        refine o_V.widen (k := 1) (n := 3) (Nat.le_of_ble_eq_true rfl) (Nat.le_of_ble_eq_true rfl) ?_
        exact r_iret hc hr rfl dL_acts_216 (hq (_, _) rfl)
      · have hok := hok.2 c185
        have hq := o_qn hq c185
        refine r_aload_n (pc := 188) hc 3 dL_acts_188 rfl rfl ?_
        refine r_iload_n (pc := 189) hc 2 dL_acts_189 rfl rfl ?_
        refine r_iload_n (pc := 190) hc 5 dL_acts_190 rfl rfl ?_
        refine r_iconst (pc := 191) (v := 2) hc dL_acts_191 rfl ?_
        refine r_ishr (pc := 192) hc dL_acts_192 ?_
        refine r_bipush (pc := 193) (v := 8) hc dL_acts_193 (by decide) ?_
        obtain ⟨hs26, hok⟩ := hok
        refine r_callS_i (pc := 195) (as := [.int _, .int _]) hc (c_L_low l _ hs26) mS_L_low kM_L_106 ⟨Nat.le_of_ble_eq_true rfl, Nat.le_of_ble_eq_true rfl⟩ ⟨Nat.le_of_ble_eq_true rfl, Nat.le_of_ble_eq_true rfl⟩ rfl rfl (Nat.le_of_ble_eq_true rfl) dL_acts_195 (fun r σ' h => ?_)
        obtain ⟨rfl, hz⟩ := h
        have hz := hz.symm
        subst hz
        refine r_iload (pc := 198) hc 1 dL_acts_198 rfl ?_
        obtain ⟨hs27, hok⟩ := hok
        refine r_callV_i (pc := 200) (as := [.int _, .int _, .int _]) hc (c_X5_disk l _ hs27) kk5 (o_lt hc (by decide)) rfl mV_X5_disk kM_L_53 ⟨Nat.le_of_ble_eq_true rfl, Nat.le_of_ble_eq_true rfl⟩ ⟨Nat.le_of_ble_eq_true rfl, Nat.le_of_ble_eq_true rfl⟩ rfl rfl (Nat.le_of_ble_eq_true rfl) dL_acts_200 (fun r σ' h => ?_)
        obtain ⟨rfl, rfl⟩ := h
        refine r_iload (pc := 203) hc 1 dL_acts_203 rfl ?_
        refine r_bipush (pc := 205) (v := 100) hc dL_acts_205 (by decide) ?_
        refine r_iadd (pc := 207) hc dL_acts_207 ?_
        refine r_icmp_ne (pc := 208) (tgt := 215) hc dL_acts_208 (by decide) (fun c208 => ?_) (fun c208 => ?_)
        · have hok := hok.2 c208
          have hq := o_qn hq c208
          refine r_iconst (pc := 215) (v := 0) hc dL_acts_215 rfl ?_
          refine o_V.widen (k := 1) (n := 3) (Nat.le_of_ble_eq_true rfl) (Nat.le_of_ble_eq_true rfl) ?_
          exact r_iret hc hr rfl dL_acts_216 (hq (_, _) rfl)
        · have hok := hok.1 c208
          have hq := o_qp hq c208
          refine r_iconst (pc := 211) (v := 1) hc dL_acts_211 rfl ?_
          refine r_goto (pc := 212) (tgt := 216) hc dL_acts_212 (by decide) ?_
          refine o_V.widen (k := 1) (n := 3) (Nat.le_of_ble_eq_true rfl) (Nat.le_of_ble_eq_true rfl) ?_
          exact r_iret hc hr rfl dL_acts_216 (hq (_, _) rfl)
  have hok := hok.2 s6_6
  have hq := o_qn hq s6_6
  refine o_cs ((f_L_low p1 14 σ) = 7) (fun s6_7 => ?_) (fun s6_7 => ?_)
  · have hok := hok.1 s6_7
    have hq := o_qp hq s6_7
    refine r_tabIn (pc := 6) (tgt := 137) (k := 7) (off := 131) hc dL_acts_6 s6_7 (by decide) (by decide) (by decide) (by decide) ?_
    refine r_iload_n (pc := 137) hc 2 dL_acts_137 rfl rfl ?_
    refine r_iconst (pc := 138) (v := 3) hc dL_acts_138 rfl ?_
    obtain ⟨hs29, hok⟩ := hok
    refine r_callS_i (pc := 139) (as := [.int _, .int _]) hc (c_L_low l _ hs29) mS_L_low kM_L_106 ⟨Nat.le_of_ble_eq_true rfl, Nat.le_of_ble_eq_true rfl⟩ ⟨Nat.le_of_ble_eq_true rfl, Nat.le_of_ble_eq_true rfl⟩ rfl rfl (Nat.le_of_ble_eq_true rfl) dL_acts_139 (fun r σ' h => ?_)
    obtain ⟨rfl, hz⟩ := h
    have hz := hz.symm
    subst hz
    refine r_istore_n (pc := 142) (lv' := [(3, _), (0, _), (1, _), (2, _)]) hc dL_acts_142 rfl (by decide) rfl ?_
    refine r_iload_n (pc := 143) hc 3 dL_acts_143 rfl rfl ?_
    refine r_bipush (pc := 144) (v := 6) hc dL_acts_144 (by decide) ?_
    refine r_ishr (pc := 146) hc dL_acts_146 ?_
    refine r_bipush (pc := 147) (v := 19) hc dL_acts_147 (by decide) ?_
    obtain ⟨hs30, hok⟩ := hok
    refine r_callS_i (pc := 149) (as := [.int _, .int _]) hc (c_L_low l _ hs30) mS_L_low kM_L_106 ⟨Nat.le_of_ble_eq_true rfl, Nat.le_of_ble_eq_true rfl⟩ ⟨Nat.le_of_ble_eq_true rfl, Nat.le_of_ble_eq_true rfl⟩ rfl rfl (Nat.le_of_ble_eq_true rfl) dL_acts_149 (fun r σ' h => ?_)
    obtain ⟨rfl, hz⟩ := h
    have hz := hz.symm
    subst hz
    refine r_bipush (pc := 152) (v := 9) hc dL_acts_152 (by decide) ?_
    refine r_isub (pc := 154) hc dL_acts_154 ?_
    refine r_istore (pc := 155) (lv' := [(4, _), (3, _), (0, _), (1, _), (2, _)]) hc dL_acts_155 (by decide) rfl ?_
    refine r_aload_n (pc := 157) hc 2 dL_acts_157 rfl rfl ?_
    refine r_iload_n (pc := 158) hc 1 dL_acts_158 rfl rfl ?_
    refine r_iload_n (pc := 159) hc 4 dL_acts_159 rfl rfl ?_
    refine r_iconst (pc := 160) (v := 2) hc dL_acts_160 rfl ?_
    refine r_ishr (pc := 161) hc dL_acts_161 ?_
    refine r_bipush (pc := 162) (v := 8) hc dL_acts_162 (by decide) ?_
    obtain ⟨hs32, hok⟩ := hok
    refine r_callS_i (pc := 164) (as := [.int _, .int _]) hc (c_L_low l _ hs32) mS_L_low kM_L_106 ⟨Nat.le_of_ble_eq_true rfl, Nat.le_of_ble_eq_true rfl⟩ ⟨Nat.le_of_ble_eq_true rfl, Nat.le_of_ble_eq_true rfl⟩ rfl rfl (Nat.le_of_ble_eq_true rfl) dL_acts_164 (fun r σ' h => ?_)
    obtain ⟨rfl, hz⟩ := h
    have hz := hz.symm
    subst hz
    refine r_iload (pc := 167) hc 0 dL_acts_167 rfl ?_
    obtain ⟨hs33, hok⟩ := hok
    refine r_callV_i (pc := 169) (as := [.int _, .int _, .int _]) hc (c_X5_disk l _ hs33) kk5 (o_lt hc (by decide)) rfl mV_X5_disk kM_L_53 ⟨Nat.le_of_ble_eq_true rfl, Nat.le_of_ble_eq_true rfl⟩ ⟨Nat.le_of_ble_eq_true rfl, Nat.le_of_ble_eq_true rfl⟩ rfl rfl (Nat.le_of_ble_eq_true rfl) dL_acts_169 (fun r σ' h => ?_)
    obtain ⟨rfl, rfl⟩ := h
    refine r_istore (pc := 172) (lv' := [(5, _), (4, _), (3, _), (0, _), (1, _), (2, _)]) hc dL_acts_172 (by decide) rfl ?_
    refine r_iload (pc := 174) hc 0 dL_acts_174 rfl ?_
    refine r_bipush (pc := 176) (v := 90) hc dL_acts_176 (by decide) ?_
    refine r_icmp_le (pc := 178) (tgt := 215) hc dL_acts_178 (by decide) (fun c178 => ?_) (fun c178 => ?_)
    · have hok := hok.1 c178
      have hq := o_qp hq c178
      refine r_iconst (pc := 215) (v := 0) hc dL_acts_215 rfl ?_
      refine o_V.widen (k := 1) (n := 3) (Nat.le_of_ble_eq_true rfl) (Nat.le_of_ble_eq_true rfl) ?_
      exact r_iret hc hr rfl dL_acts_216 (hq (_, _) rfl)
    · have hok := hok.2 c178
      have hq := o_qn hq c178
      refine r_iload (pc := 181) hc 0 dL_acts_181 rfl ?_
      refine r_bipush (pc := 183) (v := 110) hc dL_acts_183 (by decide) ?_
      refine r_icmp_ge (pc := 185) (tgt := 215) hc dL_acts_185 (by decide) (fun c185 => ?_) (fun c185 => ?_)
      · have hok := hok.1 c185
        have hq := o_qp hq c185
        refine r_iconst (pc := 215) (v := 0) hc dL_acts_215 rfl ?_
        refine o_V.widen (k := 1) (n := 3) (Nat.le_of_ble_eq_true rfl) (Nat.le_of_ble_eq_true rfl) ?_
        exact r_iret hc hr rfl dL_acts_216 (hq (_, _) rfl)
      · have hok := hok.2 c185
        have hq := o_qn hq c185
        refine r_aload_n (pc := 188) hc 3 dL_acts_188 rfl rfl ?_
        refine r_iload_n (pc := 189) hc 2 dL_acts_189 rfl rfl ?_
        refine r_iload_n (pc := 190) hc 5 dL_acts_190 rfl rfl ?_
        refine r_iconst (pc := 191) (v := 2) hc dL_acts_191 rfl ?_
        refine r_ishr (pc := 192) hc dL_acts_192 ?_
        refine r_bipush (pc := 193) (v := 8) hc dL_acts_193 (by decide) ?_
        obtain ⟨hs35, hok⟩ := hok
        refine r_callS_i (pc := 195) (as := [.int _, .int _]) hc (c_L_low l _ hs35) mS_L_low kM_L_106 ⟨Nat.le_of_ble_eq_true rfl, Nat.le_of_ble_eq_true rfl⟩ ⟨Nat.le_of_ble_eq_true rfl, Nat.le_of_ble_eq_true rfl⟩ rfl rfl (Nat.le_of_ble_eq_true rfl) dL_acts_195 (fun r σ' h => ?_)
        obtain ⟨rfl, hz⟩ := h
        have hz := hz.symm
        subst hz
        refine r_iload (pc := 198) hc 1 dL_acts_198 rfl ?_
        obtain ⟨hs36, hok⟩ := hok
        refine r_callV_i (pc := 200) (as := [.int _, .int _, .int _]) hc (c_X5_disk l _ hs36) kk5 (o_lt hc (by decide)) rfl mV_X5_disk kM_L_53 ⟨Nat.le_of_ble_eq_true rfl, Nat.le_of_ble_eq_true rfl⟩ ⟨Nat.le_of_ble_eq_true rfl, Nat.le_of_ble_eq_true rfl⟩ rfl rfl (Nat.le_of_ble_eq_true rfl) dL_acts_200 (fun r σ' h => ?_)
        obtain ⟨rfl, rfl⟩ := h
        refine r_iload (pc := 203) hc 1 dL_acts_203 rfl ?_
        refine r_bipush (pc := 205) (v := 100) hc dL_acts_205 (by decide) ?_
        refine r_iadd (pc := 207) hc dL_acts_207 ?_
        refine r_icmp_ne (pc := 208) (tgt := 215) hc dL_acts_208 (by decide) (fun c208 => ?_) (fun c208 => ?_)
        · have hok := hok.2 c208
          have hq := o_qn hq c208
          refine r_iconst (pc := 215) (v := 0) hc dL_acts_215 rfl ?_
          refine o_V.widen (k := 1) (n := 3) (Nat.le_of_ble_eq_true rfl) (Nat.le_of_ble_eq_true rfl) ?_
          exact r_iret hc hr rfl dL_acts_216 (hq (_, _) rfl)
        · have hok := hok.1 c208
          have hq := o_qp hq c208
          refine r_iconst (pc := 211) (v := 1) hc dL_acts_211 rfl ?_
          refine r_goto (pc := 212) (tgt := 216) hc dL_acts_212 (by decide) ?_
          refine o_V.widen (k := 1) (n := 3) (Nat.le_of_ble_eq_true rfl) (Nat.le_of_ble_eq_true rfl) ?_
          exact r_iret hc hr rfl dL_acts_216 (hq (_, _) rfl)
  have hok := hok.2 s6_7
  have hq := o_qn hq s6_7
  refine o_cs ((f_L_low p1 14 σ) = 8) (fun s6_8 => ?_) (fun s6_8 => ?_)
  · have hok := hok.1 s6_8
    have hq := o_qp hq s6_8
    refine r_tabIn (pc := 6) (tgt := 217) (k := 8) (off := 211) hc dL_acts_6 s6_8 (by decide) (by decide) (by decide) (by decide) ?_
    refine r_aload_n (pc := 217) hc 0 dL_acts_217 rfl rfl ?_
    refine r_iload_n (pc := 218) hc 2 dL_acts_218 rfl rfl ?_
    refine r_iconst (pc := 219) (v := 3) hc dL_acts_219 rfl ?_
    obtain ⟨hs38, hok⟩ := hok
    refine r_callS_i (pc := 220) (as := [.int _, .int _]) hc (c_L_low l _ hs38) mS_L_low kM_L_106 ⟨Nat.le_of_ble_eq_true rfl, Nat.le_of_ble_eq_true rfl⟩ ⟨Nat.le_of_ble_eq_true rfl, Nat.le_of_ble_eq_true rfl⟩ rfl rfl (Nat.le_of_ble_eq_true rfl) dL_acts_220 (fun r σ' h => ?_)
    obtain ⟨rfl, hz⟩ := h
    have hz := hz.symm
    subst hz
    refine r_iload_n (pc := 223) hc 2 dL_acts_223 rfl rfl ?_
    refine r_iconst (pc := 224) (v := 2) hc dL_acts_224 rfl ?_
    refine r_ishr (pc := 225) hc dL_acts_225 ?_
    refine r_bipush (pc := 226) (v := 7) hc dL_acts_226 (by decide) ?_
    obtain ⟨hs39, hok⟩ := hok
    refine r_callS_i (pc := 228) (as := [.int _, .int _]) hc (c_L_low l _ hs39) mS_L_low kM_L_106 ⟨Nat.le_of_ble_eq_true rfl, Nat.le_of_ble_eq_true rfl⟩ ⟨Nat.le_of_ble_eq_true rfl, Nat.le_of_ble_eq_true rfl⟩ rfl rfl (Nat.le_of_ble_eq_true rfl) dL_acts_228 (fun r σ' h => ?_)
    obtain ⟨rfl, hz⟩ := h
    have hz := hz.symm
    subst hz
    refine r_iconst (pc := 231) (v := 3) hc dL_acts_231 rfl ?_
    refine r_isub (pc := 232) hc dL_acts_232 ?_
    obtain ⟨hs40, hok⟩ := hok
    refine r_callV_i (pc := 233) (as := [.int _, .int _]) hc (c_X5_noise l _ hs40) kk5 (o_lt hc (by decide)) rfl mV_X5_noise kM_L_57 ⟨Nat.le_of_ble_eq_true rfl, Nat.le_of_ble_eq_true rfl⟩ ⟨Nat.le_of_ble_eq_true rfl, Nat.le_of_ble_eq_true rfl⟩ rfl rfl (Nat.le_of_ble_eq_true rfl) dL_acts_233 (fun r σ' h => ?_)
    obtain ⟨rfl, rfl⟩ := h
    refine r_bipush (pc := 236) (v := 90) hc dL_acts_236 (by decide) ?_
    refine r_icmp_le (pc := 238) (tgt := 245) hc dL_acts_238 (by decide) (fun c238 => ?_) (fun c238 => ?_)
    · have hok := hok.1 c238
      have hq := o_qp hq c238
      refine r_iconst (pc := 245) (v := 0) hc dL_acts_245 rfl ?_
      refine o_V.widen (k := 1) (n := 3) (Nat.le_of_ble_eq_true rfl) (Nat.le_of_ble_eq_true rfl) ?_
      exact r_iret hc hr rfl dL_acts_246 (hq (_, _) rfl)
    · have hok := hok.2 c238
      have hq := o_qn hq c238
      refine r_iconst (pc := 241) (v := 1) hc dL_acts_241 rfl ?_
      refine r_goto (pc := 242) (tgt := 246) hc dL_acts_242 (by decide) ?_
      refine o_V.widen (k := 1) (n := 3) (Nat.le_of_ble_eq_true rfl) (Nat.le_of_ble_eq_true rfl) ?_
      exact r_iret hc hr rfl dL_acts_246 (hq (_, _) rfl)
  have hok := hok.2 s6_8
  have hq := o_qn hq s6_8
  refine o_cs ((f_L_low p1 14 σ) = 9) (fun s6_9 => ?_) (fun s6_9 => ?_)
  · have hok := hok.1 s6_9
    have hq := o_qp hq s6_9
    refine r_tabIn (pc := 6) (tgt := 247) (k := 9) (off := 241) hc dL_acts_6 s6_9 (by decide) (by decide) (by decide) (by decide) ?_
    refine r_iload_n (pc := 247) hc 2 dL_acts_247 rfl rfl ?_
    refine r_iconst (pc := 248) (v := 4) hc dL_acts_248 rfl ?_
    obtain ⟨hs42, hok⟩ := hok
    refine r_callS_i (pc := 249) (as := [.int _, .int _]) hc (c_L_low l _ hs42) mS_L_low kM_L_106 ⟨Nat.le_of_ble_eq_true rfl, Nat.le_of_ble_eq_true rfl⟩ ⟨Nat.le_of_ble_eq_true rfl, Nat.le_of_ble_eq_true rfl⟩ rfl rfl (Nat.le_of_ble_eq_true rfl) dL_acts_249 (fun r σ' h => ?_)
    obtain ⟨rfl, hz⟩ := h
    have hz := hz.symm
    subst hz
    refine r_istore_n (pc := 252) (lv' := [(3, _), (0, _), (1, _), (2, _)]) hc dL_acts_252 rfl (by decide) rfl ?_
    refine r_iload_n (pc := 253) hc 0 dL_acts_253 rfl rfl ?_
    refine r_if_ne (pc := 254) (tgt := 268) hc dL_acts_254 (by decide) (fun c254 => ?_) (fun c254 => ?_)
    · have hok := hok.2 c254
      have hq := o_qn hq c254
      refine r_iload_n (pc := 268) hc 0 dL_acts_268 rfl rfl ?_
      refine r_iconst (pc := 269) (v := 1) hc dL_acts_269 rfl ?_
      refine r_icmp_ne (pc := 270) (tgt := 284) hc dL_acts_270 (by decide) (fun c270 => ?_) (fun c270 => ?_)
      · have hok := hok.2 c270
        have hq := o_qn hq c270
        refine r_iload_n (pc := 284) hc 0 dL_acts_284 rfl rfl ?_
        refine r_iconst (pc := 285) (v := 2) hc dL_acts_285 rfl ?_
        refine r_icmp_ne (pc := 286) (tgt := 303) hc dL_acts_286 (by decide) (fun c286 => ?_) (fun c286 => ?_)
        · have hok := hok.2 c286
          have hq := o_qn hq c286
          refine r_iload_n (pc := 303) hc 3 dL_acts_303 rfl rfl ?_
          refine r_iconst (pc := 304) (v := 2) hc dL_acts_304 rfl ?_
          refine r_ishr (pc := 305) hc dL_acts_305 ?_
          refine r_bipush (pc := 306) (v := 9) hc dL_acts_306 (by decide) ?_
          obtain ⟨hs43, hok⟩ := hok
          refine r_callS_i (pc := 308) (as := [.int _, .int _]) hc (c_L_low l _ hs43) mS_L_low kM_L_106 ⟨Nat.le_of_ble_eq_true rfl, Nat.le_of_ble_eq_true rfl⟩ ⟨Nat.le_of_ble_eq_true rfl, Nat.le_of_ble_eq_true rfl⟩ rfl rfl (Nat.le_of_ble_eq_true rfl) dL_acts_308 (fun r σ' h => ?_)
          obtain ⟨rfl, hz⟩ := h
          have hz := hz.symm
          subst hz
          refine r_iconst (pc := 311) (v := 4) hc dL_acts_311 rfl ?_
          refine r_isub (pc := 312) hc dL_acts_312 ?_
          exact o_V.sub (t_L_acts_313 hG hc hr hok hq) [1, 0] rfl
        · have hok := hok.1 c286
          have hq := o_qp hq c286
          refine r_iconst (pc := 289) (v := 1) hc dL_acts_289 rfl ?_
          refine r_iload_n (pc := 290) hc 3 dL_acts_290 rfl rfl ?_
          refine r_iconst (pc := 291) (v := 2) hc dL_acts_291 rfl ?_
          refine r_ishr (pc := 292) hc dL_acts_292 ?_
          refine r_sipush (pc := 293) (v := 4080) hc dL_acts_293 (by decide) ?_
          obtain ⟨hs44, hok⟩ := hok
          refine r_callS_i (pc := 296) (as := [.int _, .int _]) hc (c_L_low l _ hs44) mS_L_low kM_L_106 ⟨Nat.le_of_ble_eq_true rfl, Nat.le_of_ble_eq_true rfl⟩ ⟨Nat.le_of_ble_eq_true rfl, Nat.le_of_ble_eq_true rfl⟩ rfl rfl (Nat.le_of_ble_eq_true rfl) dL_acts_296 (fun r σ' h => ?_)
          obtain ⟨rfl, hz⟩ := h
          have hz := hz.symm
          subst hz
          refine r_iadd (pc := 299) hc dL_acts_299 ?_
          refine r_goto (pc := 300) (tgt := 313) hc dL_acts_300 (by decide) ?_
          exact o_V.sub (t_L_acts_313 hG hc hr hok hq) [1, 0] rfl
      · have hok := hok.1 c270
        have hq := o_qp hq c270
        refine r_iload_n (pc := 273) hc 3 dL_acts_273 rfl rfl ?_
        refine r_iconst (pc := 274) (v := 2) hc dL_acts_274 rfl ?_
        refine r_ishr (pc := 275) hc dL_acts_275 ?_
        refine r_bipush (pc := 276) (v := 33) hc dL_acts_276 (by decide) ?_
        obtain ⟨hs45, hok⟩ := hok
        refine r_callS_i (pc := 278) (as := [.int _, .int _]) hc (c_L_low l _ hs45) mS_L_low kM_L_106 ⟨Nat.le_of_ble_eq_true rfl, Nat.le_of_ble_eq_true rfl⟩ ⟨Nat.le_of_ble_eq_true rfl, Nat.le_of_ble_eq_true rfl⟩ rfl rfl (Nat.le_of_ble_eq_true rfl) dL_acts_278 (fun r σ' h => ?_)
        obtain ⟨rfl, hz⟩ := h
        have hz := hz.symm
        subst hz
        refine r_goto (pc := 281) (tgt := 313) hc dL_acts_281 (by decide) ?_
        exact o_V.sub (t_L_acts_313 hG hc hr hok hq) [1, 0] rfl
    · have hok := hok.1 c254
      have hq := o_qp hq c254
      refine r_iload_n (pc := 257) hc 3 dL_acts_257 rfl rfl ?_
      refine r_iconst (pc := 258) (v := 2) hc dL_acts_258 rfl ?_
      refine r_ishr (pc := 259) hc dL_acts_259 ?_
      refine r_bipush (pc := 260) (v := 41) hc dL_acts_260 (by decide) ?_
      obtain ⟨hs46, hok⟩ := hok
      refine r_callS_i (pc := 262) (as := [.int _, .int _]) hc (c_L_low l _ hs46) mS_L_low kM_L_106 ⟨Nat.le_of_ble_eq_true rfl, Nat.le_of_ble_eq_true rfl⟩ ⟨Nat.le_of_ble_eq_true rfl, Nat.le_of_ble_eq_true rfl⟩ rfl rfl (Nat.le_of_ble_eq_true rfl) dL_acts_262 (fun r σ' h => ?_)
      obtain ⟨rfl, hz⟩ := h
      have hz := hz.symm
      subst hz
      refine r_goto (pc := 265) (tgt := 313) hc dL_acts_265 (by decide) ?_
      exact o_V.sub (t_L_acts_313 hG hc hr hok hq) [1, 0] rfl
  have hok := hok.2 s6_9
  have hq := o_qn hq s6_9
  refine o_cs ((f_L_low p1 14 σ) = 10) (fun s6_10 => ?_) (fun s6_10 => ?_)
  · have hok := hok.1 s6_10
    have hq := o_qp hq s6_10
    refine r_tabIn (pc := 6) (tgt := 356) (k := 10) (off := 350) hc dL_acts_6 s6_10 (by decide) (by decide) (by decide) (by decide) ?_
    refine r_aload_n (pc := 356) hc 0 dL_acts_356 rfl rfl ?_
    refine r_iload_n (pc := 357) hc 2 dL_acts_357 rfl rfl ?_
    refine r_iconst (pc := 358) (v := 3) hc dL_acts_358 rfl ?_
    obtain ⟨hs47, hok⟩ := hok
    refine r_callS_i (pc := 359) (as := [.int _, .int _]) hc (c_L_low l _ hs47) mS_L_low kM_L_106 ⟨Nat.le_of_ble_eq_true rfl, Nat.le_of_ble_eq_true rfl⟩ ⟨Nat.le_of_ble_eq_true rfl, Nat.le_of_ble_eq_true rfl⟩ rfl rfl (Nat.le_of_ble_eq_true rfl) dL_acts_359 (fun r σ' h => ?_)
    obtain ⟨rfl, hz⟩ := h
    have hz := hz.symm
    subst hz
    refine r_iload_n (pc := 362) hc 2 dL_acts_362 rfl rfl ?_
    refine r_iconst (pc := 363) (v := 2) hc dL_acts_363 rfl ?_
    refine r_ishr (pc := 364) hc dL_acts_364 ?_
    refine r_bipush (pc := 365) (v := 8) hc dL_acts_365 (by decide) ?_
    obtain ⟨hs48, hok⟩ := hok
    refine r_callS_i (pc := 367) (as := [.int _, .int _]) hc (c_L_low l _ hs48) mS_L_low kM_L_106 ⟨Nat.le_of_ble_eq_true rfl, Nat.le_of_ble_eq_true rfl⟩ ⟨Nat.le_of_ble_eq_true rfl, Nat.le_of_ble_eq_true rfl⟩ rfl rfl (Nat.le_of_ble_eq_true rfl) dL_acts_367 (fun r σ' h => ?_)
    obtain ⟨rfl, hz⟩ := h
    have hz := hz.symm
    subst hz
    refine r_iload_n (pc := 370) hc 2 dL_acts_370 rfl rfl ?_
    refine r_iconst (pc := 371) (v := 5) hc dL_acts_371 rfl ?_
    refine r_ishr (pc := 372) hc dL_acts_372 ?_
    refine r_bipush (pc := 373) (v := 41) hc dL_acts_373 (by decide) ?_
    obtain ⟨hs49, hok⟩ := hok
    refine r_callS_i (pc := 375) (as := [.int _, .int _]) hc (c_L_low l _ hs49) mS_L_low kM_L_106 ⟨Nat.le_of_ble_eq_true rfl, Nat.le_of_ble_eq_true rfl⟩ ⟨Nat.le_of_ble_eq_true rfl, Nat.le_of_ble_eq_true rfl⟩ rfl rfl (Nat.le_of_ble_eq_true rfl) dL_acts_375 (fun r σ' h => ?_)
    obtain ⟨rfl, hz⟩ := h
    have hz := hz.symm
    subst hz
    refine r_bipush (pc := 378) (v := 20) hc dL_acts_378 (by decide) ?_
    refine r_isub (pc := 380) hc dL_acts_380 ?_
    obtain ⟨hs50, hok⟩ := hok
    refine r_callV_i (pc := 381) (as := [.int _, .int _, .int _]) hc (c_X5_correct l _ hs50) kk5 (o_lt hc (by decide)) rfl mV_X5_correct kM_L_63 ⟨Nat.le_of_ble_eq_true rfl, Nat.le_of_ble_eq_true rfl⟩ ⟨Nat.le_of_ble_eq_true rfl, Nat.le_of_ble_eq_true rfl⟩ rfl rfl (Nat.le_of_ble_eq_true rfl) dL_acts_381 (fun r σ' h => ?_)
    obtain ⟨rfl, rfl⟩ := h
    refine r_bipush (pc := 384) (v := 79) hc dL_acts_384 (by decide) ?_
    refine r_icmp_le (pc := 386) (tgt := 393) hc dL_acts_386 (by decide) (fun c386 => ?_) (fun c386 => ?_)
    · have hok := hok.1 c386
      have hq := o_qp hq c386
      refine r_iconst (pc := 393) (v := 0) hc dL_acts_393 rfl ?_
      refine o_V.widen (k := 1) (n := 3) (Nat.le_of_ble_eq_true rfl) (Nat.le_of_ble_eq_true rfl) ?_
      exact r_iret hc hr rfl dL_acts_394 (hq (_, _) rfl)
    · have hok := hok.2 c386
      have hq := o_qn hq c386
      refine r_iconst (pc := 389) (v := 1) hc dL_acts_389 rfl ?_
      refine r_goto (pc := 390) (tgt := 394) hc dL_acts_390 (by decide) ?_
      refine o_V.widen (k := 1) (n := 3) (Nat.le_of_ble_eq_true rfl) (Nat.le_of_ble_eq_true rfl) ?_
      exact r_iret hc hr rfl dL_acts_394 (hq (_, _) rfl)
  have hok := hok.2 s6_10
  have hq := o_qn hq s6_10
  refine o_cs ((f_L_low p1 14 σ) = 11) (fun s6_11 => ?_) (fun s6_11 => ?_)
  · have hok := hok.1 s6_11
    have hq := o_qp hq s6_11
    refine r_tabIn (pc := 6) (tgt := 395) (k := 11) (off := 389) hc dL_acts_6 s6_11 (by decide) (by decide) (by decide) (by decide) ?_
    refine r_aload_n (pc := 395) hc 0 dL_acts_395 rfl rfl ?_
    obtain ⟨hs52, hok⟩ := hok
    refine r_callS_im (pc := 396) (as := [.ref (gAd G _)]) hc (c_L_isLearned l _ hG hs52) mS_L_isLearned kM_L_120 ⟨Nat.le_of_ble_eq_true rfl, Nat.le_of_ble_eq_true rfl⟩ ⟨Nat.le_of_ble_eq_true rfl, Nat.le_of_ble_eq_true rfl⟩ rfl rfl (Nat.le_of_ble_eq_true rfl) dL_acts_396 (fun r σ' h => ?_)
    obtain ⟨rfl, rfl⟩ := h
    obtain ⟨hs54, hok⟩ := hok
    exact r_iret hc hr hs54 dL_acts_399 (hq (_, _) rfl)
  have hok := hok.2 s6_11
  have hq := o_qn hq s6_11
  refine o_cs ((f_L_low p1 14 σ) = 12) (fun s6_12 => ?_) (fun s6_12 => ?_)
  · have hok := hok.1 s6_12
    have hq := o_qp hq s6_12
    refine r_tabIn (pc := 6) (tgt := 400) (k := 12) (off := 394) hc dL_acts_6 s6_12 (by decide) (by decide) (by decide) (by decide) ?_
    refine r_aload_n (pc := 400) hc 0 dL_acts_400 rfl rfl ?_
    refine r_bipush (pc := 401) (v := 6) hc dL_acts_401 (by decide) ?_
    obtain ⟨hs55, hok⟩ := hok
    refine r_callV_i (pc := 403) (as := [.int _]) hc (c_X5_count l _ hs55) kk5 (o_lt hc (by decide)) rfl mV_X5_count kM_L_19 ⟨Nat.le_of_ble_eq_true rfl, Nat.le_of_ble_eq_true rfl⟩ ⟨Nat.le_of_ble_eq_true rfl, Nat.le_of_ble_eq_true rfl⟩ rfl rfl (Nat.le_of_ble_eq_true rfl) dL_acts_403 (fun r σ' h => ?_)
    obtain ⟨rfl, hz⟩ := h
    have hz := hz.symm
    subst hz
    refine r_bipush (pc := 406) (v := (-4)) hc dL_acts_406 (by decide) ?_
    refine r_icmp_ne (pc := 408) (tgt := 415) hc dL_acts_408 (by decide) (fun c408 => ?_) (fun c408 => ?_)
    · have hok := hok.2 c408
      have hq := o_qn hq c408
      refine r_iconst (pc := 415) (v := 1) hc dL_acts_415 rfl ?_
      exact o_V.sub (t_L_acts_416 hG hc hr hok hq) [0] rfl
    · have hok := hok.1 c408
      have hq := o_qp hq c408
      refine r_iconst (pc := 411) (v := 0) hc dL_acts_411 rfl ?_
      refine r_goto (pc := 412) (tgt := 416) hc dL_acts_412 (by decide) ?_
      exact o_V.sub (t_L_acts_416 hG hc hr hok hq) [0] rfl
  have hok := hok.2 s6_12
  have hq := o_qn hq s6_12
  have e6_0 := lv_neT s6_0 (show (0 : Int32).toInt = 0 by decide)
  have e6_1 := lv_neT s6_1 (show (1 : Int32).toInt = 1 by decide)
  have e6_2 := lv_neT s6_2 (show (2 : Int32).toInt = 2 by decide)
  have e6_3 := lv_neT s6_3 (show (3 : Int32).toInt = 3 by decide)
  have e6_4 := lv_neT s6_4 (show (4 : Int32).toInt = 4 by decide)
  have e6_5 := lv_neT s6_5 (show (5 : Int32).toInt = 5 by decide)
  have e6_6 := lv_neT s6_6 (show (6 : Int32).toInt = 6 by decide)
  have e6_7 := lv_neT s6_7 (show (7 : Int32).toInt = 7 by decide)
  have e6_8 := lv_neT s6_8 (show (8 : Int32).toInt = 8 by decide)
  have e6_9 := lv_neT s6_9 (show (9 : Int32).toInt = 9 by decide)
  have e6_10 := lv_neT s6_10 (show (10 : Int32).toInt = 10 by decide)
  have e6_11 := lv_neT s6_11 (show (11 : Int32).toInt = 11 by decide)
  have e6_12 := lv_neT s6_12 (show (12 : Int32).toInt = 12 by decide)
  refine r_tabOut (pc := 6) (tgt := 451) hc dL_acts_6 (by omega) (by decide) ?_
  refine r_aload_n (pc := 451) hc 0 dL_acts_451 rfl rfl ?_
  obtain ⟨hs56, hok⟩ := hok
  refine r_callS_i (pc := 452) (as := [.ref (gAd G _)]) hc (c_L_isSampled l _ hs56) mS_L_isSampled kM_L_127 ⟨Nat.le_of_ble_eq_true rfl, Nat.le_of_ble_eq_true rfl⟩ ⟨Nat.le_of_ble_eq_true rfl, Nat.le_of_ble_eq_true rfl⟩ rfl rfl (Nat.le_of_ble_eq_true rfl) dL_acts_452 (fun r σ' h => ?_)
  obtain ⟨rfl, rfl⟩ := h
  obtain ⟨hs58, hok⟩ := hok
  refine o_V.widen (k := 1) (n := 3) (Nat.le_of_ble_eq_true rfl) (Nat.le_of_ble_eq_true rfl) ?_
  exact r_iret hc hr hs58 dL_acts_455 (hq (_, _) rfl)
