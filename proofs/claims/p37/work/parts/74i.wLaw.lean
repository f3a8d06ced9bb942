noncomputable def sh_L_done_J357 (F : Nat) (v40 : Int) (v41 : Int) (v42 : Int) (v43 : Int) (B44 : zO) : Option (Int × zO) := (kn_undo B44).bind (fun (q46 : Int × zO) => if q46.1 < (0 : Int) then none else (sh_L_now F q46.2).bind (fun (q49 : Int) => zkl q49 (zkl v41 (if q49 = v41 then (kn_script q46.2 (1 : Int) (6003 : Int)).bind (fun (q54 : Int) => zkr v43 (if q54 = (if v43 = (3 : Int) then (-9 : Int) else (0 : Int)) then (kn_simulate q46.2 v40 (5 : Int)).bind (fun (q59 : Int) => if q59 < (0 : Int) then none else (sh_L_now F q46.2).bind (fun (q62 : Int) => zkl q62 (if q62 = v41 then (kn_restore q46.2 (0 : Int)).bind (fun (q66 : Int × zO) => zkr v42 (if q66.1 = v42 then (sh_L_now F q66.2).bind (fun (q70 : Int) => zkl q70 (if q70 = v41 then (kt_undo q66.2).bind (fun (q74 : Int) => if q74 = (-103 : Int) then some ((1 : Int), q66.2) else none) else none)) else none)) else none))) else none)) else none))))
noncomputable def sh_L_done_J244 (F : Nat) (v20 : Int) (v21 : Int) (v22 : Int) (B23 : zO) : Option (Int × zO) := (kn_ahead B23 (0 : Int)).bind (fun (q25 : Int) => (kn_ahead B23 (1 : Int)).bind (fun (q28 : Int) => (kn_byOrder B23 (3 : Int)).bind (fun (q31 : Int × zO) => if (if (0 : Int) < q31.1 then (1 : Int) else (0 : Int)) = (if q25 = (-9 : Int) then (0 : Int) else (1 : Int)) then if (if (1 : Int) < q31.1 then (1 : Int) else (0 : Int)) = (if q28 = (-9 : Int) then (0 : Int) else (1 : Int)) then (kn_script q31.2 (1 : Int) (6000 : Int)).bind (fun (q38 : Int) => if q38 = (0 : Int) then if q25 = (-9 : Int) then sh_L_done_J357 F v20 v21 v22 q31.1 q31.2 else (kn_drawn q31.2 q25).bind (fun (q77 : Int) => if (0 : Int) < q77 then sh_L_done_J357 F v20 v21 v22 q31.1 q31.2 else none) else none) else none else none)))
noncomputable def sh_L_done_L80 (F : Nat) (p1 : Int) (q12 : Int × zO) (k : Int → (Nat → Int) → Option (Int × zO)) : Nat → Int → (Nat → Int) → Option (Int × zO)
  | 0, _, _ => none
  | N + 1, v82, v83 => zkr v82 (zkr ((1 : Int) + (zmod p1 (4 : Int))) (if v82 < ((1 : Int) + (zmod p1 (4 : Int))) then (kn_best q12.2 ((1 : Int) + (zmod p1 (4 : Int))) v82).bind (fun (q87 : Int) => zkx v82 4 (sh_L_done_L80 F p1 q12 k N (v82 + (1 : Int)) (va_up v83 (v82).toNat q87))) else k v82 v83))
noncomputable def sh_L_done_L109 (F : Nat) (p1 : Int) (v91 : (Nat → Int)) (k : Int → zO → Option (Int × zO)) : Nat → Int → zO → Option (Int × zO)
  | 0, _, _ => none
  | N + 1, v96, v97 => zkr v96 (zkr ((1 : Int) + (zmod p1 (4 : Int))) (if v96 < ((1 : Int) + (zmod p1 (4 : Int))) then zkx v96 4 ((kn_draw v97 (v91 (v96).toNat)).bind (fun (q102 : Int × zO) => if q102.1 < (0 : Int) then none else sh_L_done_L109 F p1 v91 k N (v96 + (1 : Int)) q102.2)) else k v96 v97))
noncomputable def sh_L_done_L191 (F : Nat) (p1 : Int) (k : Int → zO → Option (Int × zO)) : Nat → Int → zO → Option (Int × zO)
  | 0, _, _ => none
  | N + 1, v115, v116 => zkr v115 (zkr ((1 : Int) + (zmod p1 (4 : Int))) (if v115 < ((1 : Int) + (zmod p1 (4 : Int))) then (kn_undo v116).bind (fun (q120 : Int × zO) => if q120.1 < (0 : Int) then none else sh_L_done_L191 F p1 k N (v115 + (1 : Int)) q120.2) else k v115 v116))
noncomputable def sh_L_done_L191_2 (F : Nat) (p1 : Int) (k : Int → zO → Option (Int × zO)) : Nat → Int → zO → Option (Int × zO)
  | 0, _, _ => none
  | N + 1, v136, v137 => zkr v136 (zkr ((1 : Int) + (zmod p1 (4 : Int))) (if v136 < ((1 : Int) + (zmod p1 (4 : Int))) then (kn_undo v137).bind (fun (q141 : Int × zO) => if q141.1 < (0 : Int) then none else sh_L_done_L191_2 F p1 k N (v136 + (1 : Int)) q141.2) else k v136 v137))
noncomputable def sh_L_done (F : Nat) (A_p0 : zO) (p1 : Int) : Option (Int × zO) := (sh_L_now F A_p0).bind (fun (q2 : Int) => (kd_totalGrade A_p0).bind (fun (q5 : Int) => (kd_totalBuckets A_p0).bind (fun (q8 : Int) => zkr p1 ((kn_save A_p0 (0 : Int)).bind (fun (q12 : Int × zO) => if q12.1 = q8 then (kn_best q12.2 ((1 : Int) + (zmod p1 (4 : Int))) ((1 : Int) + (zmod p1 (4 : Int)))).bind (fun (q15 : Int) => (kn_best q12.2 ((1 : Int) + (zmod p1 (4 : Int))) (0 : Int)).bind (fun (q18 : Int) => if q15 = (-9 : Int) then sh_L_done_J244 F p1 q2 q8 q12.2 else sh_L_done_L80 F p1 q12 (fun (v90 : Int) (v91 : (Nat → Int)) => sh_L_done_L109 F p1 v91 (fun (v104 : Int) (v105 : zO) => (kd_totalGrade v105).bind (fun (q108 : Int) => zkr (q5 + q15) (if q108 = (q5 + q15) then zkr ((1 : Int) + (zmod p1 (4 : Int))) (if (1 : Int) < ((1 : Int) + (zmod p1 (4 : Int))) then sh_L_done_L191 F p1 (fun (v122 : Int) (v123 : zO) => (sh_L_now F v123).bind (fun (q126 : Int) => zkl q126 (zkl q2 (if q126 = q2 then sh_L_done_J244 F p1 q2 q8 v123 else none)))) F (0 : Int) v105 else (kn_grade v105 q18 (0 : Int)).bind (fun (q131 : Int) => if q131 = (-103 : Int) then none else sh_L_done_L191_2 F p1 (fun (v143 : Int) (v144 : zO) => (sh_L_now F v144).bind (fun (q147 : Int) => zkl q147 (zkl q2 (if q147 = q2 then sh_L_done_J244 F p1 q2 q8 v144 else none)))) F (0 : Int) v105)) else none))) F (0 : Int) q12.2) F (0 : Int) (fun _ => 0))) else none)))))
theorem mL_done_k239 : Cond.constantLong RL 239 (6000) ∈ wsL_done := List.mem_of_getElem? (i := 2) rfl
theorem mL_done_k241 : Cond.constantLong RL 241 (6003) ∈ wsL_done := List.mem_of_getElem? (i := 3) rfl
theorem mL_done_aint : Cond.arrayClass .int ∈ wsL_done := List.mem_of_getElem? (i := 1) rfl
set_option maxRecDepth 100000 in
set_option maxHeartbeats 4000000 in
theorem zj_L_done_J357 {p : Program} {l : Launch} {e : Env} {s : State} {m : MethodId} {args : Array Value} {below : List Frame} {meth : Method} {c : Code} {A : Nat → Prop} {D : va_G} {J : Nat → ClassId} {F : Nat} {a_p0 : Nat}  {v40 : Int} {v41 : Int} {v42 : Int} {v43 : Int} {B44 : zO} {ws_p0 : va_W} {res : Int × zO} (hO_p0 : cOB J a_p0 B44 ws_p0) (hsh : sh_L_done_J357 F v40 v41 v42 v43 B44 = some res) : Z p l e ({ frames := 26, cells := 2, slots := 10, locals := 993 } : Room) s m args below meth c (MQ below (zQ D J A (fun rv w9 => rv = some (.int (zi res.1)) ∧ cOB J a_p0 res.2 w9)) args s 2 10 A) cL_done 14 wsL_done RL D J A (some .boolean) (yL_done.name, []) 1 4 ws_p0 [(0, .ref a_p0), (1, .int (zi v40)), (2, .long (zl v41)), (5, .int (zi v42)), (12, .int (zi v43))] 357 [] := by
  unfold sh_L_done_J357 at hsh
  refine z_aload_n (pc' := 358) 0 dL_done_357 rfl rfl rfl ?_
  obtain ⟨q46, h47, hsh⟩ := zbind hsh
  refine z_callSw (pc' := 361) (As := [.ref a_p0]) (rest := []) (wr := []) 1 (oc_undo_n l D J hO_p0 h47) dL_done_358 gL_done_L_undo rfl rfl rfl (by decide +kernel) ⟨Nat.le_of_ble_eq_true rfl, Nat.le_of_ble_eq_true rfl⟩ ⟨Nat.le_of_ble_eq_true rfl, Nat.le_of_ble_eq_true rfl⟩ (z_spl_nil _) rfl rfl (Nat.le_of_ble_eq_true rfl) rfl (fun E w9 hq => hq.elim) (fun rv w45 hq => ?_)
  obtain ⟨rfl, hr45, hO45⟩ := hq
  refine z_ws w45 rfl ?_
  refine z_if_lt (pc' := 364) (tgt := 400) dL_done_361 (by decide) hr45 rfl (fun q => ?_) (fun q => ?_)
  · replace hsh := zif_t q hsh
    cases hsh
  · replace hsh := zif_f q hsh
    refine z_aload_n (pc' := 365) 0 dL_done_364 rfl rfl rfl ?_
    obtain ⟨q49, h50, hsh⟩ := zbind hsh
    refine z_callS (pc' := 368) (As := [.ref a_p0]) (rest := []) (wr := []) 1 (zc_L_now l D J F hO45 q49 h50) dL_done_365 gL_done_L_now rfl rfl rfl (by decide +kernel) ⟨Nat.le_of_ble_eq_true rfl, Nat.le_of_ble_eq_true rfl⟩ ⟨Nat.le_of_ble_eq_true rfl, Nat.le_of_ble_eq_true rfl⟩ (z_spl_nil _) rfl rfl (Nat.le_of_ble_eq_true rfl) rfl (fun rv w48 hq => ?_)
    obtain ⟨rfl, hO48⟩ := hq
    refine z_ws w48 rfl ?_
    refine z_lload_n (pc' := 369) 2 dL_done_368 rfl rfl rfl ?_
    have g51 := zkl_p hsh
    replace hsh := zkl_k hsh
    have g52 := zkl_p hsh
    replace hsh := zkl_k hsh
    refine z_lcmp_ne (pc' := 373) (tgt := 400) dL_done_369 dL_done_370 (by decide) g51 g52 rfl (fun q => ?_) (fun q => ?_)
    · replace hsh := zif_f q hsh
      cases hsh
    · replace hsh := zif_t q hsh
      refine z_aload_n (pc' := 374) 0 dL_done_373 rfl rfl rfl ?_
      refine z_iconst (pc' := 375) dL_done_374 rfl ?_
      refine z_ldc2 (pc' := 378) (6003 : Int) dL_done_375 mL_done_k241 (by decide) rfl ?_
      obtain ⟨q54, h55, hsh⟩ := zbind hsh
      refine z_callSw (pc' := 381) (As := [.ref a_p0, .int (zi (1 : Int)), .long (zl (6003 : Int))]) (rest := []) (wr := []) 3 (oc_script_n l D J hO48 (1 : Int) (6003 : Int) h55) dL_done_378 gL_done_L_script rfl rfl rfl (by decide +kernel) ⟨Nat.le_of_ble_eq_true rfl, Nat.le_of_ble_eq_true rfl⟩ ⟨Nat.le_of_ble_eq_true rfl, Nat.le_of_ble_eq_true rfl⟩ (z_spl_nil _) rfl rfl (Nat.le_of_ble_eq_true rfl) rfl (fun E w9 hq => hq.elim) (fun rv w53 hq => ?_)
      obtain ⟨rfl, hr53, hO53⟩ := hq
      refine z_ws w53 rfl ?_
      refine z_iload (pc' := 383) 4 dL_done_381 rfl rfl ?_
      refine z_iconst (pc' := 384) dL_done_383 rfl ?_
      have g56 := zkr_p hsh
      replace hsh := zkr_k hsh
      refine z_pmin (c := v43 = (3 : Int)) (u := (-9 : Int)) (v := (0 : Int)) (fun y9 => Z p l e ({ frames := 26, cells := 2, slots := 10, locals := 993 } : Room) s m args below meth c (MQ below (zQ D J A (fun rv w9 => rv = some (.int (zi res.1)) ∧ cOB J a_p0 res.2 w9)) args s 2 10 A) cL_done 14 wsL_done RL D J A (some .boolean) (yL_done.name, []) 1 4 w53 [(0, .ref a_p0), (1, .int (zi v40)), (2, .long (zl v41)), (5, .int (zi v42)), (12, .int (zi v43))] 393 [.int (zi y9), .int (zi q54)]) (fun j1 j2 => ?_) ?_
      · refine z_icmp_ne (pc' := 387) (tgt := 392) dL_done_384 (by decide) g56 (by decide) rfl (fun q => ?_) (fun q => ?_)
        · refine z_iconst (pc' := 393) dL_done_392 rfl ?_
          exact j2 q
        · refine z_bipush (pc' := 389) dL_done_387 (by decide) rfl ?_
          refine z_goto (tgt := 393) dL_done_389 (by decide) ?_
          exact j1 q
      have g57 : -2147483648 ≤ (if v43 = (3 : Int) then (-9 : Int) else (0 : Int)) ∧ (if v43 = (3 : Int) then (-9 : Int) else (0 : Int)) ≤ 2147483647 := by (by_cases hif : v43 = (3 : Int)) <;> first | (rw [if_pos hif]; exact (by decide)) | (rw [if_neg hif]; exact (by decide))
      refine z_icmp_ne (pc' := 396) (tgt := 400) dL_done_393 (by decide) hr53 g57 rfl (fun q => ?_) (fun q => ?_)
      · replace hsh := zif_f q hsh
        cases hsh
      · replace hsh := zif_t q hsh
        refine z_iconst (pc' := 397) dL_done_396 rfl ?_
        refine z_goto (tgt := 401) dL_done_397 (by decide) ?_
        refine z_istore (pc' := 403) [(7, .int (zi (1 : Int))), (0, .ref a_p0), (1, .int (zi v40)), (2, .long (zl v41)), (5, .int (zi v42)), (12, .int (zi v43))] dL_done_401 (by decide) rfl rfl ?_
        refine z_aload_n (pc' := 404) 1 dL_done_403 rfl rfl rfl ?_
        refine z_iload_n (pc' := 405) 2 dL_done_404 rfl rfl rfl ?_
        refine z_iconst (pc' := 406) dL_done_405 rfl ?_
        obtain ⟨q59, h60, hsh⟩ := zbind hsh
        refine z_callSw (pc' := 409) (As := [.ref a_p0, .int (zi v40), .int (zi (5 : Int))]) (rest := []) (wr := []) 3 (oc_simulate_n l D J hO53 v40 (5 : Int) h60) dL_done_406 gL_done_L_simulate rfl rfl rfl (by decide +kernel) ⟨Nat.le_of_ble_eq_true rfl, Nat.le_of_ble_eq_true rfl⟩ ⟨Nat.le_of_ble_eq_true rfl, Nat.le_of_ble_eq_true rfl⟩ (z_spl_nil _) rfl rfl (Nat.le_of_ble_eq_true rfl) rfl (fun E w9 hq => hq.elim) (fun rv w58 hq => ?_)
        obtain ⟨rfl, hr58, hO58⟩ := hq
        refine z_ws w58 rfl ?_
        refine z_istore (pc' := 411) [(13, .int (zi q59)), (7, .int (zi (1 : Int))), (0, .ref a_p0), (1, .int (zi v40)), (2, .long (zl v41)), (5, .int (zi v42)), (12, .int (zi v43))] dL_done_409 (by decide) rfl rfl ?_
        refine z_iload (pc' := 413) 1 dL_done_411 rfl rfl ?_
        refine z_if_eq (pc' := 416) (tgt := 434) dL_done_413 (by decide) (by decide) rfl (fun q => absurd q (by decide)) (fun q => ?_)
        refine z_iload (pc' := 418) 0 dL_done_416 rfl rfl ?_
        refine z_if_lt (pc' := 421) (tgt := 434) dL_done_418 (by decide) hr58 rfl (fun q => ?_) (fun q => ?_)
        · replace hsh := zif_t q hsh
          cases hsh
        · replace hsh := zif_f q hsh
          refine z_aload_n (pc' := 422) 2 dL_done_421 rfl rfl rfl ?_
          obtain ⟨q62, h63, hsh⟩ := zbind hsh
          refine z_callS (pc' := 425) (As := [.ref a_p0]) (rest := []) (wr := []) 1 (zc_L_now l D J F hO58 q62 h63) dL_done_422 gL_done_L_now rfl rfl rfl (by decide +kernel) ⟨Nat.le_of_ble_eq_true rfl, Nat.le_of_ble_eq_true rfl⟩ ⟨Nat.le_of_ble_eq_true rfl, Nat.le_of_ble_eq_true rfl⟩ (z_spl_nil _) rfl rfl (Nat.le_of_ble_eq_true rfl) rfl (fun rv w61 hq => ?_)
          obtain ⟨rfl, hO61⟩ := hq
          refine z_ws w61 rfl ?_
          refine z_lload_n (pc' := 426) 4 dL_done_425 rfl rfl rfl ?_
          have g64 := zkl_p hsh
          replace hsh := zkl_k hsh
          refine z_lcmp_ne (pc' := 430) (tgt := 434) dL_done_426 dL_done_427 (by decide) g64 g52 rfl (fun q => ?_) (fun q => ?_)
          · replace hsh := zif_f q hsh
            cases hsh
          · replace hsh := zif_t q hsh
            refine z_iconst (pc' := 431) dL_done_430 rfl ?_
            refine z_goto (tgt := 435) dL_done_431 (by decide) ?_
            refine z_istore (pc' := 437) [(7, .int (zi (1 : Int))), (13, .int (zi q59)), (0, .ref a_p0), (1, .int (zi v40)), (2, .long (zl v41)), (5, .int (zi v42)), (12, .int (zi v43))] dL_done_435 (by decide) rfl rfl ?_
            refine z_iload (pc' := 439) 0 dL_done_437 rfl rfl ?_
            refine z_if_eq (pc' := 442) (tgt := 474) dL_done_439 (by decide) (by decide) rfl (fun q => absurd q (by decide)) (fun q => ?_)
            refine z_aload_n (pc' := 443) 2 dL_done_442 rfl rfl rfl ?_
            refine z_iconst (pc' := 444) dL_done_443 rfl ?_
            obtain ⟨q66, h67, hsh⟩ := zbind hsh
            refine z_callSw (pc' := 447) (As := [.ref a_p0, .int (zi (0 : Int))]) (rest := []) (wr := []) 2 (oc_restore_n l D J hO61 (0 : Int) h67) dL_done_444 gL_done_L_restore rfl rfl rfl (by decide +kernel) ⟨Nat.le_of_ble_eq_true rfl, Nat.le_of_ble_eq_true rfl⟩ ⟨Nat.le_of_ble_eq_true rfl, Nat.le_of_ble_eq_true rfl⟩ (z_spl_nil _) rfl rfl (Nat.le_of_ble_eq_true rfl) rfl (fun E w9 hq => hq.elim) (fun rv w65 hq => ?_)
            obtain ⟨rfl, hr65, hO65⟩ := hq
            refine z_ws w65 rfl ?_
            refine z_iload (pc' := 449) 5 dL_done_447 rfl rfl ?_
            have g68 := zkr_p hsh
            replace hsh := zkr_k hsh
            refine z_icmp_ne (pc' := 452) (tgt := 474) dL_done_449 (by decide) hr65 g68 rfl (fun q => ?_) (fun q => ?_)
            · replace hsh := zif_f q hsh
              cases hsh
            · replace hsh := zif_t q hsh
              refine z_aload_n (pc' := 453) 2 dL_done_452 rfl rfl rfl ?_
              obtain ⟨q70, h71, hsh⟩ := zbind hsh
              refine z_callS (pc' := 456) (As := [.ref a_p0]) (rest := []) (wr := []) 1 (zc_L_now l D J F hO65 q70 h71) dL_done_453 gL_done_L_now rfl rfl rfl (by decide +kernel) ⟨Nat.le_of_ble_eq_true rfl, Nat.le_of_ble_eq_true rfl⟩ ⟨Nat.le_of_ble_eq_true rfl, Nat.le_of_ble_eq_true rfl⟩ (z_spl_nil _) rfl rfl (Nat.le_of_ble_eq_true rfl) rfl (fun rv w69 hq => ?_)
              obtain ⟨rfl, hO69⟩ := hq
              refine z_ws w69 rfl ?_
              refine z_lload_n (pc' := 457) 4 dL_done_456 rfl rfl rfl ?_
              have g72 := zkl_p hsh
              replace hsh := zkl_k hsh
              refine z_lcmp_ne (pc' := 461) (tgt := 474) dL_done_457 dL_done_458 (by decide) g72 g52 rfl (fun q => ?_) (fun q => ?_)
              · replace hsh := zif_f q hsh
                cases hsh
              · replace hsh := zif_t q hsh
                refine z_aload_n (pc' := 462) 2 dL_done_461 rfl rfl rfl ?_
                obtain ⟨q74, h75, hsh⟩ := zbind hsh
                refine z_callSw (pc' := 465) (As := [.ref a_p0]) (rest := []) (wr := []) 1 (oc_undo_t l D J hO69 h75) dL_done_462 gL_done_L_undo rfl rfl rfl (by decide +kernel) ⟨Nat.le_of_ble_eq_true rfl, Nat.le_of_ble_eq_true rfl⟩ ⟨Nat.le_of_ble_eq_true rfl, Nat.le_of_ble_eq_true rfl⟩ (z_spl_nil _) rfl rfl (Nat.le_of_ble_eq_true rfl) rfl (fun E w9 hq => hq.elim) (fun rv w73 hq => ?_)
                obtain ⟨rfl, hr73, hO73⟩ := hq
                refine z_ws w73 rfl ?_
                refine z_widen 2 10 (by decide) (by decide) ?_
                refine z_bipush (pc' := 467) dL_done_465 (by decide) rfl ?_
                refine z_icmp_ne (pc' := 470) (tgt := 474) dL_done_467 (by decide) hr73 (by decide) rfl (fun q => ?_) (fun q => ?_)
                · replace hsh := zif_f q hsh
                  cases hsh
                · replace hsh := zif_t q hsh
                  refine z_iconst (pc' := 471) dL_done_470 rfl ?_
                  refine z_goto (tgt := 475) dL_done_471 (by decide) ?_
                  cases hsh
                  exact z_zret rfl (by decide) dL_done_475 ⟨rfl, hO73⟩
set_option maxRecDepth 100000 in
set_option maxHeartbeats 4000000 in
theorem zj_L_done_J244 {p : Program} {l : Launch} {e : Env} {s : State} {m : MethodId} {args : Array Value} {below : List Frame} {meth : Method} {c : Code} {A : Nat → Prop} {D : va_G} {J : Nat → ClassId} {F : Nat} {a_p0 : Nat}  {v20 : Int} {v21 : Int} {v22 : Int} {B23 : zO} {ws_p0 : va_W} {res : Int × zO} (hO_p0 : cOB J a_p0 B23 ws_p0) (hsh : sh_L_done_J244 F v20 v21 v22 B23 = some res) : Z p l e ({ frames := 26, cells := 2, slots := 10, locals := 993 } : Room) s m args below meth c (MQ below (zQ D J A (fun rv w9 => rv = some (.int (zi res.1)) ∧ cOB J a_p0 res.2 w9)) args s 2 10 A) cL_done 14 wsL_done RL D J A (some .boolean) (yL_done.name, []) 1 4 ws_p0 [(0, .ref a_p0), (1, .int (zi v20)), (2, .long (zl v21)), (5, .int (zi v22)), (7, .int (zi (1 : Int)))] 244 [] := by
  unfold sh_L_done_J244 at hsh
  refine z_aload_n (pc' := 245) 0 dL_done_244 rfl rfl rfl ?_
  refine z_iconst (pc' := 246) dL_done_245 rfl ?_
  obtain ⟨q25, h26, hsh⟩ := zbind hsh
  refine z_callSw (pc' := 249) (As := [.ref a_p0, .int (zi (0 : Int))]) (rest := []) (wr := []) 2 (oc_ahead_n l D J hO_p0 (0 : Int) h26) dL_done_246 gL_done_L_ahead rfl rfl rfl (by decide +kernel) ⟨Nat.le_of_ble_eq_true rfl, Nat.le_of_ble_eq_true rfl⟩ ⟨Nat.le_of_ble_eq_true rfl, Nat.le_of_ble_eq_true rfl⟩ (z_spl_nil _) rfl rfl (Nat.le_of_ble_eq_true rfl) rfl (fun E w9 hq => hq.elim) (fun rv w24 hq => ?_)
  obtain ⟨rfl, hr24, hO24⟩ := hq
  refine z_ws w24 rfl ?_
  refine z_istore (pc' := 251) [(10, .int (zi q25)), (0, .ref a_p0), (1, .int (zi v20)), (2, .long (zl v21)), (5, .int (zi v22)), (7, .int (zi (1 : Int)))] dL_done_249 (by decide) rfl rfl ?_
  refine z_aload_n (pc' := 252) 1 dL_done_251 rfl rfl rfl ?_
  refine z_iconst (pc' := 253) dL_done_252 rfl ?_
  obtain ⟨q28, h29, hsh⟩ := zbind hsh
  refine z_callSw (pc' := 256) (As := [.ref a_p0, .int (zi (1 : Int))]) (rest := []) (wr := []) 2 (oc_ahead_n l D J hO24 (1 : Int) h29) dL_done_253 gL_done_L_ahead rfl rfl rfl (by decide +kernel) ⟨Nat.le_of_ble_eq_true rfl, Nat.le_of_ble_eq_true rfl⟩ ⟨Nat.le_of_ble_eq_true rfl, Nat.le_of_ble_eq_true rfl⟩ (z_spl_nil _) rfl rfl (Nat.le_of_ble_eq_true rfl) rfl (fun E w9 hq => hq.elim) (fun rv w27 hq => ?_)
  obtain ⟨rfl, hr27, hO27⟩ := hq
  refine z_ws w27 rfl ?_
  refine z_istore (pc' := 258) [(11, .int (zi q28)), (10, .int (zi q25)), (0, .ref a_p0), (1, .int (zi v20)), (2, .long (zl v21)), (5, .int (zi v22)), (7, .int (zi (1 : Int)))] dL_done_256 (by decide) rfl rfl ?_
  refine z_iload (pc' := 260) 6 dL_done_258 rfl rfl ?_
  refine z_if_eq (pc' := 263) (tgt := 271) dL_done_260 (by decide) (by decide) rfl (fun q => absurd q (by decide)) (fun q => ?_)
  refine z_aload_n (pc' := 264) 2 dL_done_263 rfl rfl rfl ?_
  refine z_iconst (pc' := 265) dL_done_264 rfl ?_
  obtain ⟨q31, h32, hsh⟩ := zbind hsh
  refine z_callSw (pc' := 268) (As := [.ref a_p0, .int (zi (3 : Int))]) (rest := []) (wr := []) 2 (oc_byOrder_n l D J hO27 (3 : Int) h32) dL_done_265 gL_done_L_byOrder rfl rfl rfl (by decide +kernel) ⟨Nat.le_of_ble_eq_true rfl, Nat.le_of_ble_eq_true rfl⟩ ⟨Nat.le_of_ble_eq_true rfl, Nat.le_of_ble_eq_true rfl⟩ (z_spl_nil _) rfl rfl (Nat.le_of_ble_eq_true rfl) rfl (fun E w9 hq => hq.elim) (fun rv w30 hq => ?_)
  obtain ⟨rfl, hr30, hO30⟩ := hq
  refine z_ws w30 rfl ?_
  refine z_goto (tgt := 272) dL_done_268 (by decide) ?_
  refine z_istore (pc' := 274) [(12, .int (zi q31.1)), (11, .int (zi q28)), (10, .int (zi q25)), (0, .ref a_p0), (1, .int (zi v20)), (2, .long (zl v21)), (5, .int (zi v22)), (7, .int (zi (1 : Int)))] dL_done_272 (by decide) rfl rfl ?_
  refine z_iload (pc' := 276) 7 dL_done_274 rfl rfl ?_
  refine z_if_eq (pc' := 279) (tgt := 400) dL_done_276 (by decide) (by decide) rfl (fun q => absurd q (by decide)) (fun q => ?_)
  refine z_iload (pc' := 281) 0 dL_done_279 rfl rfl ?_
  refine z_pmin (c := (0 : Int) < q31.1) (u := (1 : Int)) (v := (0 : Int)) (fun y9 => Z p l e ({ frames := 26, cells := 2, slots := 10, locals := 993 } : Room) s m args below meth c (MQ below (zQ D J A (fun rv w9 => rv = some (.int (zi res.1)) ∧ cOB J a_p0 res.2 w9)) args s 2 10 A) cL_done 14 wsL_done RL D J A (some .boolean) (yL_done.name, []) 1 4 w30 [(12, .int (zi q31.1)), (11, .int (zi q28)), (10, .int (zi q25)), (0, .ref a_p0), (1, .int (zi v20)), (2, .long (zl v21)), (5, .int (zi v22)), (7, .int (zi (1 : Int)))] 289 [.int (zi y9)]) (fun j1 j2 => ?_) ?_
  · refine z_if_le (pc' := 284) (tgt := 288) dL_done_281 (by decide) hr30 rfl (fun q => ?_) (fun q => ?_)
    · refine z_iconst (pc' := 289) dL_done_288 rfl ?_
      exact j2 q
    · refine z_iconst (pc' := 285) dL_done_284 rfl ?_
      refine z_goto (tgt := 289) dL_done_285 (by decide) ?_
      exact j1 q
  have g33 : -2147483648 ≤ (if (0 : Int) < q31.1 then (1 : Int) else (0 : Int)) ∧ (if (0 : Int) < q31.1 then (1 : Int) else (0 : Int)) ≤ 2147483647 := by (by_cases hif : (0 : Int) < q31.1) <;> first | (rw [if_pos hif]; exact (by decide)) | (rw [if_neg hif]; exact (by decide))
  refine z_iload (pc' := 291) 2 dL_done_289 rfl rfl ?_
  refine z_bipush (pc' := 293) dL_done_291 (by decide) rfl ?_
  refine z_pmin (c := q25 = (-9 : Int)) (u := (0 : Int)) (v := (1 : Int)) (fun y9 => Z p l e ({ frames := 26, cells := 2, slots := 10, locals := 993 } : Room) s m args below meth c (MQ below (zQ D J A (fun rv w9 => rv = some (.int (zi res.1)) ∧ cOB J a_p0 res.2 w9)) args s 2 10 A) cL_done 14 wsL_done RL D J A (some .boolean) (yL_done.name, []) 1 4 w30 [(12, .int (zi q31.1)), (11, .int (zi q28)), (10, .int (zi q25)), (0, .ref a_p0), (1, .int (zi v20)), (2, .long (zl v21)), (5, .int (zi v22)), (7, .int (zi (1 : Int)))] 301 [.int (zi y9), .int (zi (if (0 : Int) < q31.1 then (1 : Int) else (0 : Int)))]) (fun j1 j2 => ?_) ?_
  · refine z_icmp_eq (pc' := 296) (tgt := 300) dL_done_293 (by decide) hr24 (by decide) rfl (fun q => ?_) (fun q => ?_)
    · refine z_iconst (pc' := 301) dL_done_300 rfl ?_
      exact j1 q
    · refine z_iconst (pc' := 297) dL_done_296 rfl ?_
      refine z_goto (tgt := 301) dL_done_297 (by decide) ?_
      exact j2 q
  have g34 : -2147483648 ≤ (if q25 = (-9 : Int) then (0 : Int) else (1 : Int)) ∧ (if q25 = (-9 : Int) then (0 : Int) else (1 : Int)) ≤ 2147483647 := by (by_cases hif : q25 = (-9 : Int)) <;> first | (rw [if_pos hif]; exact (by decide)) | (rw [if_neg hif]; exact (by decide))
  refine z_icmp_ne (pc' := 304) (tgt := 400) dL_done_301 (by decide) g33 g34 rfl (fun q => ?_) (fun q => ?_)
  · replace hsh := zif_f q hsh
    cases hsh
  · replace hsh := zif_t q hsh
    refine z_iload (pc' := 306) 0 dL_done_304 rfl rfl ?_
    refine z_iconst (pc' := 307) dL_done_306 rfl ?_
    refine z_pmin (c := (1 : Int) < q31.1) (u := (1 : Int)) (v := (0 : Int)) (fun y9 => Z p l e ({ frames := 26, cells := 2, slots := 10, locals := 993 } : Room) s m args below meth c (MQ below (zQ D J A (fun rv w9 => rv = some (.int (zi res.1)) ∧ cOB J a_p0 res.2 w9)) args s 2 10 A) cL_done 14 wsL_done RL D J A (some .boolean) (yL_done.name, []) 1 4 w30 [(12, .int (zi q31.1)), (11, .int (zi q28)), (10, .int (zi q25)), (0, .ref a_p0), (1, .int (zi v20)), (2, .long (zl v21)), (5, .int (zi v22)), (7, .int (zi (1 : Int)))] 315 [.int (zi y9)]) (fun j1 j2 => ?_) ?_
    · refine z_icmp_le (pc' := 310) (tgt := 314) dL_done_307 (by decide) hr30 (by decide) rfl (fun q => ?_) (fun q => ?_)
      · refine z_iconst (pc' := 315) dL_done_314 rfl ?_
        exact j2 q
      · refine z_iconst (pc' := 311) dL_done_310 rfl ?_
        refine z_goto (tgt := 315) dL_done_311 (by decide) ?_
        exact j1 q
    have g35 : -2147483648 ≤ (if (1 : Int) < q31.1 then (1 : Int) else (0 : Int)) ∧ (if (1 : Int) < q31.1 then (1 : Int) else (0 : Int)) ≤ 2147483647 := by (by_cases hif : (1 : Int) < q31.1) <;> first | (rw [if_pos hif]; exact (by decide)) | (rw [if_neg hif]; exact (by decide))
    refine z_iload (pc' := 317) 1 dL_done_315 rfl rfl ?_
    refine z_bipush (pc' := 319) dL_done_317 (by decide) rfl ?_
    refine z_pmin (c := q28 = (-9 : Int)) (u := (0 : Int)) (v := (1 : Int)) (fun y9 => Z p l e ({ frames := 26, cells := 2, slots := 10, locals := 993 } : Room) s m args below meth c (MQ below (zQ D J A (fun rv w9 => rv = some (.int (zi res.1)) ∧ cOB J a_p0 res.2 w9)) args s 2 10 A) cL_done 14 wsL_done RL D J A (some .boolean) (yL_done.name, []) 1 4 w30 [(12, .int (zi q31.1)), (11, .int (zi q28)), (10, .int (zi q25)), (0, .ref a_p0), (1, .int (zi v20)), (2, .long (zl v21)), (5, .int (zi v22)), (7, .int (zi (1 : Int)))] 327 [.int (zi y9), .int (zi (if (1 : Int) < q31.1 then (1 : Int) else (0 : Int)))]) (fun j1 j2 => ?_) ?_
    · refine z_icmp_eq (pc' := 322) (tgt := 326) dL_done_319 (by decide) hr27 (by decide) rfl (fun q => ?_) (fun q => ?_)
      · refine z_iconst (pc' := 327) dL_done_326 rfl ?_
        exact j1 q
      · refine z_iconst (pc' := 323) dL_done_322 rfl ?_
        refine z_goto (tgt := 327) dL_done_323 (by decide) ?_
        exact j2 q
    have g36 : -2147483648 ≤ (if q28 = (-9 : Int) then (0 : Int) else (1 : Int)) ∧ (if q28 = (-9 : Int) then (0 : Int) else (1 : Int)) ≤ 2147483647 := by (by_cases hif : q28 = (-9 : Int)) <;> first | (rw [if_pos hif]; exact (by decide)) | (rw [if_neg hif]; exact (by decide))
    refine z_icmp_ne (pc' := 330) (tgt := 400) dL_done_327 (by decide) g35 g36 rfl (fun q => ?_) (fun q => ?_)
    · replace hsh := zif_f q hsh
      cases hsh
    · replace hsh := zif_t q hsh
      refine z_aload_n (pc' := 331) 3 dL_done_330 rfl rfl rfl ?_
      refine z_iconst (pc' := 332) dL_done_331 rfl ?_
      refine z_ldc2 (pc' := 335) (6000 : Int) dL_done_332 mL_done_k239 (by decide) rfl ?_
      obtain ⟨q38, h39, hsh⟩ := zbind hsh
      refine z_callSw (pc' := 338) (As := [.ref a_p0, .int (zi (1 : Int)), .long (zl (6000 : Int))]) (rest := []) (wr := []) 3 (oc_script_n l D J hO30 (1 : Int) (6000 : Int) h39) dL_done_335 gL_done_L_script rfl rfl rfl (by decide +kernel) ⟨Nat.le_of_ble_eq_true rfl, Nat.le_of_ble_eq_true rfl⟩ ⟨Nat.le_of_ble_eq_true rfl, Nat.le_of_ble_eq_true rfl⟩ (z_spl_nil _) rfl rfl (Nat.le_of_ble_eq_true rfl) rfl (fun E w9 hq => hq.elim) (fun rv w37 hq => ?_)
      obtain ⟨rfl, hr37, hO37⟩ := hq
      refine z_ws w37 rfl ?_
      refine z_if_ne (pc' := 341) (tgt := 400) dL_done_338 (by decide) hr37 rfl (fun q => ?_) (fun q => ?_)
      · replace hsh := zif_f q hsh
        cases hsh
      · replace hsh := zif_t q hsh
        refine z_iload (pc' := 343) 2 dL_done_341 rfl rfl ?_
        refine z_bipush (pc' := 345) dL_done_343 (by decide) rfl ?_
        refine z_icmp_eq (pc' := 348) (tgt := 357) dL_done_345 (by decide) hr24 (by decide) rfl (fun q => ?_) (fun q => ?_)
        · replace hsh := zif_t q hsh
          refine z_lv [(0, .ref a_p0), (1, .int (zi v20)), (2, .long (zl v21)), (5, .int (zi v22)), (12, .int (zi q31.1))] [3, 4, 5, 6, 0] rfl ?_
          exact zj_L_done_J357 hO37 hsh
        · replace hsh := zif_f q hsh
          refine z_aload_n (pc' := 349) 3 dL_done_348 rfl rfl rfl ?_
          refine z_iload (pc' := 351) 2 dL_done_349 rfl rfl ?_
          obtain ⟨q77, h78, hsh⟩ := zbind hsh
          refine z_callSw (pc' := 354) (As := [.ref a_p0, .int (zi q25)]) (rest := []) (wr := []) 2 (oc_drawn_n l D J hO37 q25 h78) dL_done_351 gL_done_L_drawn rfl rfl rfl (by decide +kernel) ⟨Nat.le_of_ble_eq_true rfl, Nat.le_of_ble_eq_true rfl⟩ ⟨Nat.le_of_ble_eq_true rfl, Nat.le_of_ble_eq_true rfl⟩ (z_spl_nil _) rfl rfl (Nat.le_of_ble_eq_true rfl) rfl (fun E w9 hq => hq.elim) (fun rv w76 hq => ?_)
          obtain ⟨rfl, hr76, hO76⟩ := hq
          refine z_ws w76 rfl ?_
          refine z_if_le (pc' := 357) (tgt := 400) dL_done_354 (by decide) hr76 rfl (fun q => ?_) (fun q => ?_)
          · replace hsh := zif_f q hsh
            cases hsh
          · replace hsh := zif_t q hsh
            refine z_lv [(0, .ref a_p0), (1, .int (zi v20)), (2, .long (zl v21)), (5, .int (zi v22)), (12, .int (zi q31.1))] [3, 4, 5, 6, 0] rfl ?_
            exact zj_L_done_J357 hO76 hsh
set_option maxRecDepth 100000 in
set_option maxHeartbeats 4000000 in
theorem zl_L_done_L80 {p : Program} {l : Launch} {e : Env} {s : State} {m : MethodId} {args : Array Value} {below : List Frame} {meth : Method} {c : Code} {A : Nat → Prop} {D : va_G} {J : Nat → ClassId} {F : Nat} {a_p0 : Nat} {p1 : Int} {q12 : Int × zO} {b_73 : Nat} {q2 : Int} {q5 : Int} {q8 : Int} {q15 : Int} {q18 : Int} {res : Int × zO} {k : Int → (Nat → Int) → Option (Int × zO)} (hk : ∀ (v82' : Int) (v83' : (Nat → Int)) (ws_p0' : va_W), cOB J a_p0 q12.2 ws_p0' → k v82' v83' = some res → Z p l e ({ frames := 26, cells := 2, slots := 10, locals := 993 } : Room) s m args below meth c (MQ below (zQ D J A (fun rv w9 => rv = some (.int (zi res.1)) ∧ cOB J a_p0 res.2 w9)) args s 2 10 A) cL_done 14 wsL_done RL D J A (some .boolean) (yL_done.name, []) 1 4 ((b_73, zI J 4 v83') :: ws_p0') [(0, .ref a_p0), (1, .int (zi p1)), (2, .long (zl q2)), (4, .int (zi q5)), (5, .int (zi q8)), (6, .int (zi ((1 : Int) + (zmod p1 (4 : Int))))), (7, .int (zi (1 : Int))), (8, .int (zi q15)), (9, .int (zi q18)), (10, .ref b_73)] 106 []) : ∀ (N : Nat) (v82 : Int) (v83 : (Nat → Int)) (ws_p0 : va_W), cOB J a_p0 q12.2 ws_p0 → sh_L_done_L80 F p1 q12 k N v82 v83 = some res → Z p l e ({ frames := 26, cells := 2, slots := 10, locals := 993 } : Room) s m args below meth c (MQ below (zQ D J A (fun rv w9 => rv = some (.int (zi res.1)) ∧ cOB J a_p0 res.2 w9)) args s 2 10 A) cL_done 14 wsL_done RL D J A (some .boolean) (yL_done.name, []) 1 4 ((b_73, zI J 4 v83) :: ws_p0) [(0, .ref a_p0), (1, .int (zi p1)), (2, .long (zl q2)), (4, .int (zi q5)), (5, .int (zi q8)), (6, .int (zi ((1 : Int) + (zmod p1 (4 : Int))))), (7, .int (zi (1 : Int))), (8, .int (zi q15)), (9, .int (zi q18)), (10, .ref b_73), (11, .int (zi v82))] 80 [] := by
  intro N
  induction N with
  | zero =>
    intro v82 v83 ws_p0 hO_p0 hsh
    exact absurd hsh (by simp [sh_L_done_L80])
  | succ N ih =>
    intro v82 v83 ws_p0 hO_p0 hsh
    rw [sh_L_done_L80] at hsh
    refine z_iload (pc' := 82) 10 dL_done_80 rfl rfl ?_
    refine z_iload (pc' := 84) 5 dL_done_82 rfl rfl ?_
    have g84 := zkr_p hsh
    replace hsh := zkr_k hsh
    have g85 := zkr_p hsh
    replace hsh := zkr_k hsh
    refine z_icmp_ge (pc' := 87) (tgt := 106) dL_done_84 (by decide) g84 g85 rfl (fun q => ?_) (fun q => ?_)
    · replace hsh := zif_f q hsh
      refine z_lv [(0, .ref a_p0), (1, .int (zi p1)), (2, .long (zl q2)), (4, .int (zi q5)), (5, .int (zi q8)), (6, .int (zi ((1 : Int) + (zmod p1 (4 : Int))))), (7, .int (zi (1 : Int))), (8, .int (zi q15)), (9, .int (zi q18)), (10, .ref b_73)] [0, 1, 2, 3, 4, 5, 6, 7, 8, 9] rfl ?_
      exact hk _ _ _ hO_p0 hsh
    · replace hsh := zif_t q hsh
      refine z_aload (pc' := 89) 9 dL_done_87 rfl rfl ?_
      refine z_iload (pc' := 91) 10 dL_done_89 rfl rfl ?_
      refine z_aload_n (pc' := 92) 0 dL_done_91 rfl rfl rfl ?_
      refine z_iload (pc' := 94) 5 dL_done_92 rfl rfl ?_
      refine z_iload (pc' := 96) 10 dL_done_94 rfl rfl ?_
      obtain ⟨q87, h88, hsh⟩ := zbind hsh
      refine z_callSw (pc' := 99) (As := [.ref a_p0, .int (zi ((1 : Int) + (zmod p1 (4 : Int)))), .int (zi v82)]) (rest := [.int (zi v82), .ref b_73]) (wr := [(b_73, zI J 4 v83)]) 3 (oc_best_n l D J hO_p0 ((1 : Int) + (zmod p1 (4 : Int))) v82 h88) dL_done_96 gL_done_L_best rfl rfl rfl (by decide +kernel) ⟨Nat.le_of_ble_eq_true rfl, Nat.le_of_ble_eq_true rfl⟩ ⟨Nat.le_of_ble_eq_true rfl, Nat.le_of_ble_eq_true rfl⟩ (z_spl_sw _ _) rfl rfl (Nat.le_of_ble_eq_true rfl) rfl (fun E w9 hq => hq.elim) (fun rv w86 hq => ?_)
      obtain ⟨rfl, hr86, hO86⟩ := hq
      refine z_ws ((b_73, zI J 4 v83) :: w86) rfl ?_
      have g89 := zkx_p hsh
      replace hsh := zkx_k hsh
      refine z_iastore (pc' := 100) 0 ((b_73, zI J 4 (va_up v83 (v82).toNat q87)) :: w86) dL_done_99 rfl (by decide) g89 rfl rfl ?_
      refine z_iinc (pc' := 103) [(11, .int (zi (v82 + (1 : Int)))), (0, .ref a_p0), (1, .int (zi p1)), (2, .long (zl q2)), (4, .int (zi q5)), (5, .int (zi q8)), (6, .int (zi ((1 : Int) + (zmod p1 (4 : Int))))), (7, .int (zi (1 : Int))), (8, .int (zi q15)), (9, .int (zi q18)), (10, .ref b_73)] 10 dL_done_100 rfl (by decide) rfl rfl ?_
      refine z_goto (tgt := 80) dL_done_103 (by decide) ?_
      refine z_lv [(0, .ref a_p0), (1, .int (zi p1)), (2, .long (zl q2)), (4, .int (zi q5)), (5, .int (zi q8)), (6, .int (zi ((1 : Int) + (zmod p1 (4 : Int))))), (7, .int (zi (1 : Int))), (8, .int (zi q15)), (9, .int (zi q18)), (10, .ref b_73), (11, .int (zi (v82 + (1 : Int))))] [1, 2, 3, 4, 5, 6, 7, 8, 9, 10, 0] rfl ?_
      exact ih _ _ _ hO86 hsh
set_option maxRecDepth 100000 in
set_option maxHeartbeats 4000000 in
theorem zl_L_done_L109 {p : Program} {l : Launch} {e : Env} {s : State} {m : MethodId} {args : Array Value} {below : List Frame} {meth : Method} {c : Code} {A : Nat → Prop} {D : va_G} {J : Nat → ClassId} {F : Nat} {a_p0 : Nat} {p1 : Int} {v91 : (Nat → Int)} {b_73 : Nat} {q2 : Int} {q5 : Int} {q8 : Int} {q15 : Int} {q18 : Int} {res : Int × zO} {k : Int → zO → Option (Int × zO)} (hk : ∀ (v96' : Int) (v97' : zO) (ws_p0' : va_W), cOB J a_p0 v97' ws_p0' → k v96' v97' = some res → Z p l e ({ frames := 26, cells := 2, slots := 10, locals := 993 } : Room) s m args below meth c (MQ below (zQ D J A (fun rv w9 => rv = some (.int (zi res.1)) ∧ cOB J a_p0 res.2 w9)) args s 2 10 A) cL_done 14 wsL_done RL D J A (some .boolean) (yL_done.name, []) 1 4 ((b_73, zI J 4 v91) :: ws_p0') [(0, .ref a_p0), (1, .int (zi p1)), (2, .long (zl q2)), (4, .int (zi q5)), (5, .int (zi q8)), (6, .int (zi ((1 : Int) + (zmod p1 (4 : Int))))), (7, .int (zi (1 : Int))), (8, .int (zi q15)), (9, .int (zi q18))] 146 []) : ∀ (N : Nat) (v96 : Int) (v97 : zO) (ws_p0 : va_W), cOB J a_p0 v97 ws_p0 → sh_L_done_L109 F p1 v91 k N v96 v97 = some res → Z p l e ({ frames := 26, cells := 2, slots := 10, locals := 993 } : Room) s m args below meth c (MQ below (zQ D J A (fun rv w9 => rv = some (.int (zi res.1)) ∧ cOB J a_p0 res.2 w9)) args s 2 10 A) cL_done 14 wsL_done RL D J A (some .boolean) (yL_done.name, []) 1 4 ((b_73, zI J 4 v91) :: ws_p0) [(0, .ref a_p0), (1, .int (zi p1)), (2, .long (zl q2)), (4, .int (zi q5)), (5, .int (zi q8)), (6, .int (zi ((1 : Int) + (zmod p1 (4 : Int))))), (7, .int (zi (1 : Int))), (8, .int (zi q15)), (9, .int (zi q18)), (10, .ref b_73), (11, .int (zi v96))] 109 [] := by
  intro N
  induction N with
  | zero =>
    intro v96 v97 ws_p0 hO_p0 hsh
    exact absurd hsh (by simp [sh_L_done_L109])
  | succ N ih =>
    intro v96 v97 ws_p0 hO_p0 hsh
    rw [sh_L_done_L109] at hsh
    refine z_iload (pc' := 111) 10 dL_done_109 rfl rfl ?_
    refine z_iload (pc' := 113) 5 dL_done_111 rfl rfl ?_
    have g98 := zkr_p hsh
    replace hsh := zkr_k hsh
    have g99 := zkr_p hsh
    replace hsh := zkr_k hsh
    refine z_icmp_ge (pc' := 116) (tgt := 146) dL_done_113 (by decide) g98 g99 rfl (fun q => ?_) (fun q => ?_)
    · replace hsh := zif_f q hsh
      refine z_lv [(0, .ref a_p0), (1, .int (zi p1)), (2, .long (zl q2)), (4, .int (zi q5)), (5, .int (zi q8)), (6, .int (zi ((1 : Int) + (zmod p1 (4 : Int))))), (7, .int (zi (1 : Int))), (8, .int (zi q15)), (9, .int (zi q18))] [0, 1, 2, 3, 4, 5, 6, 7, 8] rfl ?_
      exact hk _ _ _ hO_p0 hsh
    · replace hsh := zif_t q hsh
      refine z_iload (pc' := 118) 6 dL_done_116 rfl rfl ?_
      refine z_if_eq (pc' := 121) (tgt := 146) dL_done_118 (by decide) (by decide) rfl (fun q => absurd q (by decide)) (fun q => ?_)
      refine z_aload_n (pc' := 122) 0 dL_done_121 rfl rfl rfl ?_
      refine z_aload (pc' := 124) 9 dL_done_122 rfl rfl ?_
      refine z_iload (pc' := 126) 10 dL_done_124 rfl rfl ?_
      have g100 := zkx_p hsh
      replace hsh := zkx_k hsh
      refine z_iaload (pc' := 127) 0 dL_done_126 rfl (by decide) g100 rfl ?_
      obtain ⟨q102, h103, hsh⟩ := zbind hsh
      refine z_callSw (pc' := 130) (As := [.ref a_p0, .int (zi (v91 (v96).toNat))]) (rest := []) (wr := [(b_73, zI J 4 v91)]) 2 (oc_draw_n l D J hO_p0 (v91 (v96).toNat) h103) dL_done_127 gL_done_L_draw rfl rfl rfl (by decide +kernel) ⟨Nat.le_of_ble_eq_true rfl, Nat.le_of_ble_eq_true rfl⟩ ⟨Nat.le_of_ble_eq_true rfl, Nat.le_of_ble_eq_true rfl⟩ (z_spl_sw _ _) rfl rfl (Nat.le_of_ble_eq_true rfl) rfl (fun E w9 hq => hq.elim) (fun rv w101 hq => ?_)
      obtain ⟨rfl, hr101, hO101⟩ := hq
      refine z_ws ((b_73, zI J 4 v91) :: w101) rfl ?_
      refine z_if_lt (pc' := 133) (tgt := 137) dL_done_130 (by decide) hr101 rfl (fun q => ?_) (fun q => ?_)
      · replace hsh := zif_t q hsh
        cases hsh
      · replace hsh := zif_f q hsh
        refine z_iconst (pc' := 134) dL_done_133 rfl ?_
        refine z_goto (tgt := 138) dL_done_134 (by decide) ?_
        refine z_istore (pc' := 140) [(7, .int (zi (1 : Int))), (0, .ref a_p0), (1, .int (zi p1)), (2, .long (zl q2)), (4, .int (zi q5)), (5, .int (zi q8)), (6, .int (zi ((1 : Int) + (zmod p1 (4 : Int))))), (8, .int (zi q15)), (9, .int (zi q18)), (10, .ref b_73), (11, .int (zi v96))] dL_done_138 (by decide) rfl rfl ?_
        refine z_iinc (pc' := 143) [(11, .int (zi (v96 + (1 : Int)))), (7, .int (zi (1 : Int))), (0, .ref a_p0), (1, .int (zi p1)), (2, .long (zl q2)), (4, .int (zi q5)), (5, .int (zi q8)), (6, .int (zi ((1 : Int) + (zmod p1 (4 : Int))))), (8, .int (zi q15)), (9, .int (zi q18)), (10, .ref b_73)] 10 dL_done_140 rfl (by decide) rfl rfl ?_
        refine z_goto (tgt := 109) dL_done_143 (by decide) ?_
        refine z_lv [(0, .ref a_p0), (1, .int (zi p1)), (2, .long (zl q2)), (4, .int (zi q5)), (5, .int (zi q8)), (6, .int (zi ((1 : Int) + (zmod p1 (4 : Int))))), (7, .int (zi (1 : Int))), (8, .int (zi q15)), (9, .int (zi q18)), (10, .ref b_73), (11, .int (zi (v96 + (1 : Int))))] [2, 3, 4, 5, 6, 7, 1, 8, 9, 10, 0] rfl ?_
        exact ih _ _ _ hO101 hsh
set_option maxRecDepth 100000 in
set_option maxHeartbeats 4000000 in
theorem zl_L_done_L191 {p : Program} {l : Launch} {e : Env} {s : State} {m : MethodId} {args : Array Value} {below : List Frame} {meth : Method} {c : Code} {A : Nat → Prop} {D : va_G} {J : Nat → ClassId} {F : Nat} {a_p0 : Nat} {p1 : Int} {b_73 : Nat} {v91 : (Nat → Int)} {q2 : Int} {q8 : Int} {res : Int × zO} {k : Int → zO → Option (Int × zO)} (hk : ∀ (v115' : Int) (v116' : zO) (ws_p0' : va_W), cOB J a_p0 v116' ws_p0' → k v115' v116' = some res → Z p l e ({ frames := 26, cells := 2, slots := 10, locals := 993 } : Room) s m args below meth c (MQ below (zQ D J A (fun rv w9 => rv = some (.int (zi res.1)) ∧ cOB J a_p0 res.2 w9)) args s 2 10 A) cL_done 14 wsL_done RL D J A (some .boolean) (yL_done.name, []) 1 4 ((b_73, zI J 4 v91) :: ws_p0') [(0, .ref a_p0), (1, .int (zi p1)), (2, .long (zl q2)), (5, .int (zi q8)), (7, .int (zi (1 : Int)))] 223 []) : ∀ (N : Nat) (v115 : Int) (v116 : zO) (ws_p0 : va_W), cOB J a_p0 v116 ws_p0 → sh_L_done_L191 F p1 k N v115 v116 = some res → Z p l e ({ frames := 26, cells := 2, slots := 10, locals := 993 } : Room) s m args below meth c (MQ below (zQ D J A (fun rv w9 => rv = some (.int (zi res.1)) ∧ cOB J a_p0 res.2 w9)) args s 2 10 A) cL_done 14 wsL_done RL D J A (some .boolean) (yL_done.name, []) 1 4 ((b_73, zI J 4 v91) :: ws_p0) [(0, .ref a_p0), (1, .int (zi p1)), (2, .long (zl q2)), (5, .int (zi q8)), (6, .int (zi ((1 : Int) + (zmod p1 (4 : Int))))), (7, .int (zi (1 : Int))), (11, .int (zi v115))] 191 [] := by
  intro N
  induction N with
  | zero =>
    intro v115 v116 ws_p0 hO_p0 hsh
    exact absurd hsh (by simp [sh_L_done_L191])
  | succ N ih =>
    intro v115 v116 ws_p0 hO_p0 hsh
    rw [sh_L_done_L191] at hsh
    refine z_iload (pc' := 193) 6 dL_done_191 rfl rfl ?_
    refine z_iload (pc' := 195) 4 dL_done_193 rfl rfl ?_
    have g117 := zkr_p hsh
    replace hsh := zkr_k hsh
    have g118 := zkr_p hsh
    replace hsh := zkr_k hsh
    refine z_icmp_ge (pc' := 198) (tgt := 223) dL_done_195 (by decide) g117 g118 rfl (fun q => ?_) (fun q => ?_)
    · replace hsh := zif_f q hsh
      refine z_lv [(0, .ref a_p0), (1, .int (zi p1)), (2, .long (zl q2)), (5, .int (zi q8)), (7, .int (zi (1 : Int)))] [0, 1, 2, 3, 5] rfl ?_
      exact hk _ _ _ hO_p0 hsh
    · replace hsh := zif_t q hsh
      refine z_iload (pc' := 200) 5 dL_done_198 rfl rfl ?_
      refine z_if_eq (pc' := 203) (tgt := 223) dL_done_200 (by decide) (by decide) rfl (fun q => absurd q (by decide)) (fun q => ?_)
      refine z_aload_n (pc' := 204) 0 dL_done_203 rfl rfl rfl ?_
      obtain ⟨q120, h121, hsh⟩ := zbind hsh
      refine z_callSw (pc' := 207) (As := [.ref a_p0]) (rest := []) (wr := [(b_73, zI J 4 v91)]) 1 (oc_undo_n l D J hO_p0 h121) dL_done_204 gL_done_L_undo rfl rfl rfl (by decide +kernel) ⟨Nat.le_of_ble_eq_true rfl, Nat.le_of_ble_eq_true rfl⟩ ⟨Nat.le_of_ble_eq_true rfl, Nat.le_of_ble_eq_true rfl⟩ (z_spl_sw _ _) rfl rfl (Nat.le_of_ble_eq_true rfl) rfl (fun E w9 hq => hq.elim) (fun rv w119 hq => ?_)
      obtain ⟨rfl, hr119, hO119⟩ := hq
      refine z_ws ((b_73, zI J 4 v91) :: w119) rfl ?_
      refine z_if_lt (pc' := 210) (tgt := 214) dL_done_207 (by decide) hr119 rfl (fun q => ?_) (fun q => ?_)
      · replace hsh := zif_t q hsh
        cases hsh
      · replace hsh := zif_f q hsh
        refine z_iconst (pc' := 211) dL_done_210 rfl ?_
        refine z_goto (tgt := 215) dL_done_211 (by decide) ?_
        refine z_istore (pc' := 217) [(7, .int (zi (1 : Int))), (0, .ref a_p0), (1, .int (zi p1)), (2, .long (zl q2)), (5, .int (zi q8)), (6, .int (zi ((1 : Int) + (zmod p1 (4 : Int))))), (11, .int (zi v115))] dL_done_215 (by decide) rfl rfl ?_
        refine z_iinc (pc' := 220) [(11, .int (zi (v115 + (1 : Int)))), (7, .int (zi (1 : Int))), (0, .ref a_p0), (1, .int (zi p1)), (2, .long (zl q2)), (5, .int (zi q8)), (6, .int (zi ((1 : Int) + (zmod p1 (4 : Int)))))] 6 dL_done_217 rfl (by decide) rfl rfl ?_
        refine z_goto (tgt := 191) dL_done_220 (by decide) ?_
        refine z_lv [(0, .ref a_p0), (1, .int (zi p1)), (2, .long (zl q2)), (5, .int (zi q8)), (6, .int (zi ((1 : Int) + (zmod p1 (4 : Int))))), (7, .int (zi (1 : Int))), (11, .int (zi (v115 + (1 : Int))))] [2, 3, 4, 5, 6, 1, 0] rfl ?_
        exact ih _ _ _ hO119 hsh
set_option maxRecDepth 100000 in
set_option maxHeartbeats 4000000 in
theorem zl_L_done_L191_2 {p : Program} {l : Launch} {e : Env} {s : State} {m : MethodId} {args : Array Value} {below : List Frame} {meth : Method} {c : Code} {A : Nat → Prop} {D : va_G} {J : Nat → ClassId} {F : Nat} {a_p0 : Nat} {p1 : Int} {b_73 : Nat} {v91 : (Nat → Int)} {q2 : Int} {q8 : Int} {res : Int × zO} {k : Int → zO → Option (Int × zO)} (hk : ∀ (v136' : Int) (v137' : zO) (ws_p0' : va_W), cOB J a_p0 v137' ws_p0' → k v136' v137' = some res → Z p l e ({ frames := 26, cells := 2, slots := 10, locals := 993 } : Room) s m args below meth c (MQ below (zQ D J A (fun rv w9 => rv = some (.int (zi res.1)) ∧ cOB J a_p0 res.2 w9)) args s 2 10 A) cL_done 14 wsL_done RL D J A (some .boolean) (yL_done.name, []) 1 4 ((b_73, zI J 4 v91) :: ws_p0') [(0, .ref a_p0), (1, .int (zi p1)), (2, .long (zl q2)), (5, .int (zi q8)), (7, .int (zi (1 : Int)))] 223 []) : ∀ (N : Nat) (v136 : Int) (v137 : zO) (ws_p0 : va_W), cOB J a_p0 v137 ws_p0 → sh_L_done_L191_2 F p1 k N v136 v137 = some res → Z p l e ({ frames := 26, cells := 2, slots := 10, locals := 993 } : Room) s m args below meth c (MQ below (zQ D J A (fun rv w9 => rv = some (.int (zi res.1)) ∧ cOB J a_p0 res.2 w9)) args s 2 10 A) cL_done 14 wsL_done RL D J A (some .boolean) (yL_done.name, []) 1 4 ((b_73, zI J 4 v91) :: ws_p0) [(0, .ref a_p0), (1, .int (zi p1)), (2, .long (zl q2)), (5, .int (zi q8)), (6, .int (zi ((1 : Int) + (zmod p1 (4 : Int))))), (7, .int (zi (1 : Int))), (11, .int (zi v136))] 191 [] := by
  intro N
  induction N with
  | zero =>
    intro v136 v137 ws_p0 hO_p0 hsh
    exact absurd hsh (by simp [sh_L_done_L191_2])
  | succ N ih =>
    intro v136 v137 ws_p0 hO_p0 hsh
    rw [sh_L_done_L191_2] at hsh
    refine z_iload (pc' := 193) 6 dL_done_191 rfl rfl ?_
    refine z_iload (pc' := 195) 4 dL_done_193 rfl rfl ?_
    have g138 := zkr_p hsh
    replace hsh := zkr_k hsh
    have g139 := zkr_p hsh
    replace hsh := zkr_k hsh
    refine z_icmp_ge (pc' := 198) (tgt := 223) dL_done_195 (by decide) g138 g139 rfl (fun q => ?_) (fun q => ?_)
    · replace hsh := zif_f q hsh
      refine z_lv [(0, .ref a_p0), (1, .int (zi p1)), (2, .long (zl q2)), (5, .int (zi q8)), (7, .int (zi (1 : Int)))] [0, 1, 2, 3, 5] rfl ?_
      exact hk _ _ _ hO_p0 hsh
    · replace hsh := zif_t q hsh
      refine z_iload (pc' := 200) 5 dL_done_198 rfl rfl ?_
      refine z_if_eq (pc' := 203) (tgt := 223) dL_done_200 (by decide) (by decide) rfl (fun q => absurd q (by decide)) (fun q => ?_)
      refine z_aload_n (pc' := 204) 0 dL_done_203 rfl rfl rfl ?_
      obtain ⟨q141, h142, hsh⟩ := zbind hsh
      refine z_callSw (pc' := 207) (As := [.ref a_p0]) (rest := []) (wr := [(b_73, zI J 4 v91)]) 1 (oc_undo_n l D J hO_p0 h142) dL_done_204 gL_done_L_undo rfl rfl rfl (by decide +kernel) ⟨Nat.le_of_ble_eq_true rfl, Nat.le_of_ble_eq_true rfl⟩ ⟨Nat.le_of_ble_eq_true rfl, Nat.le_of_ble_eq_true rfl⟩ (z_spl_sw _ _) rfl rfl (Nat.le_of_ble_eq_true rfl) rfl (fun E w9 hq => hq.elim) (fun rv w140 hq => ?_)
      obtain ⟨rfl, hr140, hO140⟩ := hq
      refine z_ws ((b_73, zI J 4 v91) :: w140) rfl ?_
      refine z_if_lt (pc' := 210) (tgt := 214) dL_done_207 (by decide) hr140 rfl (fun q => ?_) (fun q => ?_)
      · replace hsh := zif_t q hsh
        cases hsh
      · replace hsh := zif_f q hsh
        refine z_iconst (pc' := 211) dL_done_210 rfl ?_
        refine z_goto (tgt := 215) dL_done_211 (by decide) ?_
        refine z_istore (pc' := 217) [(7, .int (zi (1 : Int))), (0, .ref a_p0), (1, .int (zi p1)), (2, .long (zl q2)), (5, .int (zi q8)), (6, .int (zi ((1 : Int) + (zmod p1 (4 : Int))))), (11, .int (zi v136))] dL_done_215 (by decide) rfl rfl ?_
        refine z_iinc (pc' := 220) [(11, .int (zi (v136 + (1 : Int)))), (7, .int (zi (1 : Int))), (0, .ref a_p0), (1, .int (zi p1)), (2, .long (zl q2)), (5, .int (zi q8)), (6, .int (zi ((1 : Int) + (zmod p1 (4 : Int)))))] 6 dL_done_217 rfl (by decide) rfl rfl ?_
        refine z_goto (tgt := 191) dL_done_220 (by decide) ?_
        refine z_lv [(0, .ref a_p0), (1, .int (zi p1)), (2, .long (zl q2)), (5, .int (zi q8)), (6, .int (zi ((1 : Int) + (zmod p1 (4 : Int))))), (7, .int (zi (1 : Int))), (11, .int (zi (v136 + (1 : Int))))] [2, 3, 4, 5, 6, 1, 0] rfl ?_
        exact ih _ _ _ hO140 hsh
set_option maxRecDepth 100000 in
set_option maxHeartbeats 4000000 in
theorem zc_L_done (l : Launch) (D : va_G) (J : Nat → ClassId) (F : Nat) {a_p0 : Nat} {A_p0 : zO} {ws_p0 : va_W} (hO_p0 : cOB J a_p0 A_p0 ws_p0) (p1 : Int) (res : Int × zO) (hsh : sh_L_done F A_p0 p1 = some res) : ZM l D J yL_done wsL_done ({ frames := 26, cells := 2, slots := 10, locals := 993 } : Room) 2 10 [.ref a_p0, .int (zi p1)] ws_p0 (fun rv w9 => rv = some (.int (zi res.1)) ∧ cOB J a_p0 res.2 w9) := by
  refine z_ofZ (cc := cL_done) (maxL := 14) (ret := (some .boolean)) 2 10 (by decide) rfl (Nat.le_of_ble_eq_true rfl) [(0, .ref a_p0), (1, .int (zi p1))] rfl ?_
  intro p e s m args below meth c A
  unfold sh_L_done at hsh
  refine z_aload_n (pc' := 1) 0 dL_done_0 rfl rfl rfl ?_
  obtain ⟨q2, h3, hsh⟩ := zbind hsh
  refine z_callS (pc' := 4) (As := [.ref a_p0]) (rest := []) (wr := []) 1 (zc_L_now l D J F hO_p0 q2 h3) dL_done_1 gL_done_L_now rfl rfl rfl (by decide +kernel) ⟨Nat.le_of_ble_eq_true rfl, Nat.le_of_ble_eq_true rfl⟩ ⟨Nat.le_of_ble_eq_true rfl, Nat.le_of_ble_eq_true rfl⟩ (z_spl_nil _) rfl rfl (Nat.le_of_ble_eq_true rfl) rfl (fun rv w1 hq => ?_)
  obtain ⟨rfl, hO1⟩ := hq
  refine z_ws w1 rfl ?_
  refine z_lstore_n (pc' := 5) [(2, .long (zl q2)), (0, .ref a_p0), (1, .int (zi p1))] dL_done_4 rfl (by decide) rfl rfl ?_
  refine z_aload_n (pc' := 6) 1 dL_done_5 rfl rfl rfl ?_
  obtain ⟨q5, h6, hsh⟩ := zbind hsh
  obtain ⟨fs4, h0_4⟩ := hO1.h0
  refine z_callV (pc' := 9) (C := RX8) (As := []) (rest := []) (wr := []) 0 (oc_totalGrade_d l D J hO1 h6) dL_done_6 gL_done_X8_totalGrade rfl rfl rfl (by decide +kernel) ⟨Nat.le_of_ble_eq_true rfl, Nat.le_of_ble_eq_true rfl⟩ ⟨Nat.le_of_ble_eq_true rfl, Nat.le_of_ble_eq_true rfl⟩ (z_spl_nil _) h0_4 rfl rfl rfl (Nat.le_of_ble_eq_true rfl) rfl (fun rv w4 hq => ?_)
  obtain ⟨rfl, hr4, hO4⟩ := hq
  refine z_ws w4 rfl ?_
  refine z_istore (pc' := 11) [(4, .int (zi q5)), (2, .long (zl q2)), (0, .ref a_p0), (1, .int (zi p1))] dL_done_9 (by decide) rfl rfl ?_
  refine z_aload_n (pc' := 12) 2 dL_done_11 rfl rfl rfl ?_
  obtain ⟨q8, h9, hsh⟩ := zbind hsh
  obtain ⟨fs7, h0_7⟩ := hO4.h0
  refine z_callV (pc' := 15) (C := RX8) (As := []) (rest := []) (wr := []) 0 (oc_totalBuckets_d l D J hO4 h9) dL_done_12 gL_done_X8_totalBuckets rfl rfl rfl (by decide +kernel) ⟨Nat.le_of_ble_eq_true rfl, Nat.le_of_ble_eq_true rfl⟩ ⟨Nat.le_of_ble_eq_true rfl, Nat.le_of_ble_eq_true rfl⟩ (z_spl_nil _) h0_7 rfl rfl rfl (Nat.le_of_ble_eq_true rfl) rfl (fun rv w7 hq => ?_)
  obtain ⟨rfl, hr7, hO7⟩ := hq
  refine z_ws w7 rfl ?_
  refine z_istore (pc' := 17) [(5, .int (zi q8)), (4, .int (zi q5)), (2, .long (zl q2)), (0, .ref a_p0), (1, .int (zi p1))] dL_done_15 (by decide) rfl rfl ?_
  refine z_iconst (pc' := 18) dL_done_17 rfl ?_
  refine z_iload_n (pc' := 19) 4 dL_done_18 rfl rfl rfl ?_
  refine z_iconst (pc' := 20) dL_done_19 rfl ?_
  have g10 := zkr_p hsh
  replace hsh := zkr_k hsh
  refine z_irem (pc' := 21) dL_done_20 g10 (by decide) (by decide) rfl ?_
  refine z_iadd (pc' := 22) dL_done_21 rfl ?_
  refine z_istore (pc' := 24) [(6, .int (zi ((1 : Int) + (zmod p1 (4 : Int))))), (5, .int (zi q8)), (4, .int (zi q5)), (2, .long (zl q2)), (0, .ref a_p0), (1, .int (zi p1))] dL_done_22 (by decide) rfl rfl ?_
  refine z_aload_n (pc' := 25) 4 dL_done_24 rfl rfl rfl ?_
  refine z_iconst (pc' := 26) dL_done_25 rfl ?_
  obtain ⟨q12, h13, hsh⟩ := zbind hsh
  refine z_callSw (pc' := 29) (As := [.ref a_p0, .int (zi (0 : Int))]) (rest := []) (wr := []) 2 (oc_save_n l D J hO7 (0 : Int) h13) dL_done_26 gL_done_L_save rfl rfl rfl (by decide +kernel) ⟨Nat.le_of_ble_eq_true rfl, Nat.le_of_ble_eq_true rfl⟩ ⟨Nat.le_of_ble_eq_true rfl, Nat.le_of_ble_eq_true rfl⟩ (z_spl_nil _) rfl rfl (Nat.le_of_ble_eq_true rfl) rfl (fun E w9 hq => hq.elim) (fun rv w11 hq => ?_)
  obtain ⟨rfl, hr11, hO11⟩ := hq
  refine z_ws w11 rfl ?_
  refine z_iload (pc' := 31) 1 dL_done_29 rfl rfl ?_
  refine z_icmp_ne (pc' := 34) (tgt := 38) dL_done_31 (by decide) hr11 hr7 rfl (fun q => ?_) (fun q => ?_)
  · replace hsh := zif_f q hsh
    cases hsh
  · replace hsh := zif_t q hsh
    refine z_iconst (pc' := 35) dL_done_34 rfl ?_
    refine z_goto (tgt := 39) dL_done_35 (by decide) ?_
    refine z_istore (pc' := 41) [(7, .int (zi (1 : Int))), (6, .int (zi ((1 : Int) + (zmod p1 (4 : Int))))), (5, .int (zi q8)), (4, .int (zi q5)), (2, .long (zl q2)), (0, .ref a_p0), (1, .int (zi p1))] dL_done_39 (by decide) rfl rfl ?_
    refine z_aload_n (pc' := 42) 5 dL_done_41 rfl rfl rfl ?_
    refine z_iload (pc' := 44) 1 dL_done_42 rfl rfl ?_
    refine z_iload (pc' := 46) 1 dL_done_44 rfl rfl ?_
    obtain ⟨q15, h16, hsh⟩ := zbind hsh
    refine z_callSw (pc' := 49) (As := [.ref a_p0, .int (zi ((1 : Int) + (zmod p1 (4 : Int)))), .int (zi ((1 : Int) + (zmod p1 (4 : Int))))]) (rest := []) (wr := []) 3 (oc_best_n l D J hO11 ((1 : Int) + (zmod p1 (4 : Int))) ((1 : Int) + (zmod p1 (4 : Int))) h16) dL_done_46 gL_done_L_best rfl rfl rfl (by decide +kernel) ⟨Nat.le_of_ble_eq_true rfl, Nat.le_of_ble_eq_true rfl⟩ ⟨Nat.le_of_ble_eq_true rfl, Nat.le_of_ble_eq_true rfl⟩ (z_spl_nil _) rfl rfl (Nat.le_of_ble_eq_true rfl) rfl (fun E w9 hq => hq.elim) (fun rv w14 hq => ?_)
    obtain ⟨rfl, hr14, hO14⟩ := hq
    refine z_ws w14 rfl ?_
    refine z_istore (pc' := 51) [(8, .int (zi q15)), (7, .int (zi (1 : Int))), (6, .int (zi ((1 : Int) + (zmod p1 (4 : Int))))), (5, .int (zi q8)), (4, .int (zi q5)), (2, .long (zl q2)), (0, .ref a_p0), (1, .int (zi p1))] dL_done_49 (by decide) rfl rfl ?_
    refine z_aload_n (pc' := 52) 6 dL_done_51 rfl rfl rfl ?_
    refine z_iload (pc' := 54) 2 dL_done_52 rfl rfl ?_
    refine z_iconst (pc' := 55) dL_done_54 rfl ?_
    obtain ⟨q18, h19, hsh⟩ := zbind hsh
    refine z_callSw (pc' := 58) (As := [.ref a_p0, .int (zi ((1 : Int) + (zmod p1 (4 : Int)))), .int (zi (0 : Int))]) (rest := []) (wr := []) 3 (oc_best_n l D J hO14 ((1 : Int) + (zmod p1 (4 : Int))) (0 : Int) h19) dL_done_55 gL_done_L_best rfl rfl rfl (by decide +kernel) ⟨Nat.le_of_ble_eq_true rfl, Nat.le_of_ble_eq_true rfl⟩ ⟨Nat.le_of_ble_eq_true rfl, Nat.le_of_ble_eq_true rfl⟩ (z_spl_nil _) rfl rfl (Nat.le_of_ble_eq_true rfl) rfl (fun E w9 hq => hq.elim) (fun rv w17 hq => ?_)
    obtain ⟨rfl, hr17, hO17⟩ := hq
    refine z_ws w17 rfl ?_
    refine z_istore (pc' := 60) [(9, .int (zi q18)), (8, .int (zi q15)), (7, .int (zi (1 : Int))), (6, .int (zi ((1 : Int) + (zmod p1 (4 : Int))))), (5, .int (zi q8)), (4, .int (zi q5)), (2, .long (zl q2)), (0, .ref a_p0), (1, .int (zi p1))] dL_done_58 (by decide) rfl rfl ?_
    refine z_iload (pc' := 62) 2 dL_done_60 rfl rfl ?_
    refine z_if_eq (pc' := 65) (tgt := 244) dL_done_62 (by decide) (by decide) rfl (fun q => absurd q (by decide)) (fun q => ?_)
    refine z_iload (pc' := 67) 1 dL_done_65 rfl rfl ?_
    refine z_bipush (pc' := 69) dL_done_67 (by decide) rfl ?_
    refine z_icmp_eq (pc' := 72) (tgt := 244) dL_done_69 (by decide) hr14 (by decide) rfl (fun q => ?_) (fun q => ?_)
    · replace hsh := zif_t q hsh
      refine z_lv [(0, .ref a_p0), (1, .int (zi p1)), (2, .long (zl q2)), (5, .int (zi q8)), (7, .int (zi (1 : Int)))] [7, 8, 6, 4, 2] rfl ?_
      refine z_widen 1 4 (by decide) (by decide) ?_
      exact zj_L_done_J244 hO17 hsh
    · replace hsh := zif_f q hsh
      refine z_iconst (pc' := 73) dL_done_72 rfl ?_
      refine z_newarr_int (pc' := 75) 4 1 4 dL_done_73 mL_done_aint rfl (by decide) rfl rfl (Nat.le_of_ble_eq_true rfl) (Nat.le_of_ble_eq_true rfl) rfl (fun b_73 => ?_)
      refine z_sw ?_
      refine z_ws ((b_73, zI J 4 (fun _ => 0)) :: w17) rfl ?_
      refine z_astore (pc' := 77) [(10, .ref b_73), (9, .int (zi q18)), (8, .int (zi q15)), (7, .int (zi (1 : Int))), (6, .int (zi ((1 : Int) + (zmod p1 (4 : Int))))), (5, .int (zi q8)), (4, .int (zi q5)), (2, .long (zl q2)), (0, .ref a_p0), (1, .int (zi p1))] dL_done_75 (by decide) rfl rfl ?_
      refine z_iconst (pc' := 78) dL_done_77 rfl ?_
      refine z_istore (pc' := 80) [(11, .int (zi (0 : Int))), (10, .ref b_73), (9, .int (zi q18)), (8, .int (zi q15)), (7, .int (zi (1 : Int))), (6, .int (zi ((1 : Int) + (zmod p1 (4 : Int))))), (5, .int (zi q8)), (4, .int (zi q5)), (2, .long (zl q2)), (0, .ref a_p0), (1, .int (zi p1))] dL_done_78 (by decide) rfl rfl ?_
      refine z_lv [(0, .ref a_p0), (1, .int (zi p1)), (2, .long (zl q2)), (4, .int (zi q5)), (5, .int (zi q8)), (6, .int (zi ((1 : Int) + (zmod p1 (4 : Int))))), (7, .int (zi (1 : Int))), (8, .int (zi q15)), (9, .int (zi q18)), (10, .ref b_73), (11, .int (zi (0 : Int)))] [9, 10, 8, 7, 6, 5, 4, 3, 2, 1, 0] rfl ?_
      refine zl_L_done_L80 (F := F) (hk := fun v90 v91 ws92_p0 hO92_p0 hsh => ?_) _ _ _ _ hO17 hsh
      refine z_iconst (pc' := 107) dL_done_106 rfl ?_
      refine z_istore (pc' := 109) [(11, .int (zi (0 : Int))), (0, .ref a_p0), (1, .int (zi p1)), (2, .long (zl q2)), (4, .int (zi q5)), (5, .int (zi q8)), (6, .int (zi ((1 : Int) + (zmod p1 (4 : Int))))), (7, .int (zi (1 : Int))), (8, .int (zi q15)), (9, .int (zi q18)), (10, .ref b_73)] dL_done_107 (by decide) rfl rfl ?_
      refine z_lv [(0, .ref a_p0), (1, .int (zi p1)), (2, .long (zl q2)), (4, .int (zi q5)), (5, .int (zi q8)), (6, .int (zi ((1 : Int) + (zmod p1 (4 : Int))))), (7, .int (zi (1 : Int))), (8, .int (zi q15)), (9, .int (zi q18)), (10, .ref b_73), (11, .int (zi (0 : Int)))] [1, 2, 3, 4, 5, 6, 7, 8, 9, 10, 0] rfl ?_
      refine zl_L_done_L109 (F := F) (hk := fun v104 v105 ws106_p0 hO106_p0 hsh => ?_) _ _ _ _ hO92_p0 hsh
      refine z_iload (pc' := 148) 6 dL_done_146 rfl rfl ?_
      refine z_if_eq (pc' := 151) (tgt := 185) dL_done_148 (by decide) (by decide) rfl (fun q => absurd q (by decide)) (fun q => ?_)
      refine z_aload_n (pc' := 152) 0 dL_done_151 rfl rfl rfl ?_
      obtain ⟨q108, h109, hsh⟩ := zbind hsh
      obtain ⟨fs107, h0_107⟩ := hO106_p0.h0
      refine z_callV (pc' := 155) (C := RX8) (As := []) (rest := []) (wr := [(b_73, zI J 4 v91)]) 0 (oc_totalGrade_d l D J hO106_p0 h109) dL_done_152 gL_done_X8_totalGrade rfl rfl rfl (by decide +kernel) ⟨Nat.le_of_ble_eq_true rfl, Nat.le_of_ble_eq_true rfl⟩ ⟨Nat.le_of_ble_eq_true rfl, Nat.le_of_ble_eq_true rfl⟩ (z_spl_sw _ _) h0_107 rfl rfl rfl (Nat.le_of_ble_eq_true rfl) rfl (fun rv w107 hq => ?_)
      obtain ⟨rfl, hr107, hO107⟩ := hq
      refine z_ws ((b_73, zI J 4 v91) :: w107) rfl ?_
      refine z_iload (pc' := 157) 3 dL_done_155 rfl rfl ?_
      refine z_iload (pc' := 159) 7 dL_done_157 rfl rfl ?_
      refine z_iadd (pc' := 160) dL_done_159 rfl ?_
      have g110 := zkr_p hsh
      replace hsh := zkr_k hsh
      refine z_icmp_ne (pc' := 163) (tgt := 185) dL_done_160 (by decide) hr107 g110 rfl (fun q => ?_) (fun q => ?_)
      · replace hsh := zif_f q hsh
        cases hsh
      · replace hsh := zif_t q hsh
        refine z_iload (pc' := 165) 5 dL_done_163 rfl rfl ?_
        refine z_iconst (pc' := 166) dL_done_165 rfl ?_
        have g111 := zkr_p hsh
        replace hsh := zkr_k hsh
        refine z_icmp_gt (pc' := 169) (tgt := 181) dL_done_166 (by decide) g111 (by decide) rfl (fun q => ?_) (fun q => ?_)
        · replace hsh := zif_t q hsh
          refine z_iconst (pc' := 182) dL_done_181 rfl ?_
          refine z_goto (tgt := 186) dL_done_182 (by decide) ?_
          refine z_istore (pc' := 188) [(7, .int (zi (1 : Int))), (0, .ref a_p0), (1, .int (zi p1)), (2, .long (zl q2)), (4, .int (zi q5)), (5, .int (zi q8)), (6, .int (zi ((1 : Int) + (zmod p1 (4 : Int))))), (8, .int (zi q15)), (9, .int (zi q18))] dL_done_186 (by decide) rfl rfl ?_
          refine z_iconst (pc' := 189) dL_done_188 rfl ?_
          refine z_istore (pc' := 191) [(11, .int (zi (0 : Int))), (7, .int (zi (1 : Int))), (0, .ref a_p0), (1, .int (zi p1)), (2, .long (zl q2)), (4, .int (zi q5)), (5, .int (zi q8)), (6, .int (zi ((1 : Int) + (zmod p1 (4 : Int))))), (8, .int (zi q15)), (9, .int (zi q18))] dL_done_189 (by decide) rfl rfl ?_
          refine z_lv [(0, .ref a_p0), (1, .int (zi p1)), (2, .long (zl q2)), (5, .int (zi q8)), (6, .int (zi ((1 : Int) + (zmod p1 (4 : Int))))), (7, .int (zi (1 : Int))), (11, .int (zi (0 : Int)))] [2, 3, 4, 6, 7, 1, 0] rfl ?_
          refine zl_L_done_L191 (F := F) (hk := fun v122 v123 ws124_p0 hO124_p0 hsh => ?_) _ _ _ _ hO107 hsh
          refine z_iload (pc' := 225) 4 dL_done_223 rfl rfl ?_
          refine z_if_eq (pc' := 228) (tgt := 241) dL_done_225 (by decide) (by decide) rfl (fun q => absurd q (by decide)) (fun q => ?_)
          refine z_aload_n (pc' := 229) 0 dL_done_228 rfl rfl rfl ?_
          obtain ⟨q126, h127, hsh⟩ := zbind hsh
          refine z_callS (pc' := 232) (As := [.ref a_p0]) (rest := []) (wr := [(b_73, zI J 4 v91)]) 1 (zc_L_now l D J F hO124_p0 q126 h127) dL_done_229 gL_done_L_now rfl rfl rfl (by decide +kernel) ⟨Nat.le_of_ble_eq_true rfl, Nat.le_of_ble_eq_true rfl⟩ ⟨Nat.le_of_ble_eq_true rfl, Nat.le_of_ble_eq_true rfl⟩ (z_spl_sw _ _) rfl rfl (Nat.le_of_ble_eq_true rfl) rfl (fun rv w125 hq => ?_)
          obtain ⟨rfl, hO125⟩ := hq
          refine z_ws ((b_73, zI J 4 v91) :: w125) rfl ?_
          refine z_lload_n (pc' := 233) 2 dL_done_232 rfl rfl rfl ?_
          have g128 := zkl_p hsh
          replace hsh := zkl_k hsh
          have g129 := zkl_p hsh
          replace hsh := zkl_k hsh
          refine z_lcmp_ne (pc' := 237) (tgt := 241) dL_done_233 dL_done_234 (by decide) g128 g129 rfl (fun q => ?_) (fun q => ?_)
          · replace hsh := zif_f q hsh
            cases hsh
          · replace hsh := zif_t q hsh
            refine z_iconst (pc' := 238) dL_done_237 rfl ?_
            refine z_goto (tgt := 242) dL_done_238 (by decide) ?_
            refine z_istore (pc' := 244) [(7, .int (zi (1 : Int))), (0, .ref a_p0), (1, .int (zi p1)), (2, .long (zl q2)), (5, .int (zi q8))] dL_done_242 (by decide) rfl rfl ?_
            refine z_lv [(0, .ref a_p0), (1, .int (zi p1)), (2, .long (zl q2)), (5, .int (zi q8)), (7, .int (zi (1 : Int)))] [1, 2, 3, 4, 0] rfl ?_
            refine z_drop ?_
            exact zj_L_done_J244 hO125 hsh
        · replace hsh := zif_f q hsh
          refine z_aload_n (pc' := 170) 0 dL_done_169 rfl rfl rfl ?_
          refine z_iload (pc' := 172) 8 dL_done_170 rfl rfl ?_
          refine z_iconst (pc' := 173) dL_done_172 rfl ?_
          obtain ⟨q131, h132, hsh⟩ := zbind hsh
          refine z_callSw (pc' := 176) (As := [.ref a_p0, .int (zi q18), .int (zi (0 : Int))]) (rest := []) (wr := [(b_73, zI J 4 v91)]) 3 (oc_grade_n l D J hO107 q18 (0 : Int) h132) dL_done_173 gL_done_L_grade rfl rfl rfl (by decide +kernel) ⟨Nat.le_of_ble_eq_true rfl, Nat.le_of_ble_eq_true rfl⟩ ⟨Nat.le_of_ble_eq_true rfl, Nat.le_of_ble_eq_true rfl⟩ (z_spl_sw _ _) rfl rfl (Nat.le_of_ble_eq_true rfl) rfl (fun E w9 hq => hq.elim) (fun rv w130 hq => ?_)
          obtain ⟨rfl, hr130, hO130⟩ := hq
          refine z_ws ((b_73, zI J 4 v91) :: w130) rfl ?_
          refine z_bipush (pc' := 178) dL_done_176 (by decide) rfl ?_
          refine z_icmp_eq (pc' := 181) (tgt := 185) dL_done_178 (by decide) hr130 (by decide) rfl (fun q => ?_) (fun q => ?_)
          · replace hsh := zif_t q hsh
            cases hsh
          · replace hsh := zif_f q hsh
            refine z_iconst (pc' := 182) dL_done_181 rfl ?_
            refine z_goto (tgt := 186) dL_done_182 (by decide) ?_
            refine z_istore (pc' := 188) [(7, .int (zi (1 : Int))), (0, .ref a_p0), (1, .int (zi p1)), (2, .long (zl q2)), (4, .int (zi q5)), (5, .int (zi q8)), (6, .int (zi ((1 : Int) + (zmod p1 (4 : Int))))), (8, .int (zi q15)), (9, .int (zi q18))] dL_done_186 (by decide) rfl rfl ?_
            refine z_iconst (pc' := 189) dL_done_188 rfl ?_
            refine z_istore (pc' := 191) [(11, .int (zi (0 : Int))), (7, .int (zi (1 : Int))), (0, .ref a_p0), (1, .int (zi p1)), (2, .long (zl q2)), (4, .int (zi q5)), (5, .int (zi q8)), (6, .int (zi ((1 : Int) + (zmod p1 (4 : Int))))), (8, .int (zi q15)), (9, .int (zi q18))] dL_done_189 (by decide) rfl rfl ?_
            refine z_lv [(0, .ref a_p0), (1, .int (zi p1)), (2, .long (zl q2)), (5, .int (zi q8)), (6, .int (zi ((1 : Int) + (zmod p1 (4 : Int))))), (7, .int (zi (1 : Int))), (11, .int (zi (0 : Int)))] [2, 3, 4, 6, 7, 1, 0] rfl ?_
            refine zl_L_done_L191_2 (F := F) (hk := fun v143 v144 ws145_p0 hO145_p0 hsh => ?_) _ _ _ _ hO130 hsh
            refine z_iload (pc' := 225) 4 dL_done_223 rfl rfl ?_
            refine z_if_eq (pc' := 228) (tgt := 241) dL_done_225 (by decide) (by decide) rfl (fun q => absurd q (by decide)) (fun q => ?_)
            refine z_aload_n (pc' := 229) 0 dL_done_228 rfl rfl rfl ?_
            obtain ⟨q147, h148, hsh⟩ := zbind hsh
            refine z_callS (pc' := 232) (As := [.ref a_p0]) (rest := []) (wr := [(b_73, zI J 4 v91)]) 1 (zc_L_now l D J F hO145_p0 q147 h148) dL_done_229 gL_done_L_now rfl rfl rfl (by decide +kernel) ⟨Nat.le_of_ble_eq_true rfl, Nat.le_of_ble_eq_true rfl⟩ ⟨Nat.le_of_ble_eq_true rfl, Nat.le_of_ble_eq_true rfl⟩ (z_spl_sw _ _) rfl rfl (Nat.le_of_ble_eq_true rfl) rfl (fun rv w146 hq => ?_)
            obtain ⟨rfl, hO146⟩ := hq
            refine z_ws ((b_73, zI J 4 v91) :: w146) rfl ?_
            refine z_lload_n (pc' := 233) 2 dL_done_232 rfl rfl rfl ?_
            have g149 := zkl_p hsh
            replace hsh := zkl_k hsh
            have g150 := zkl_p hsh
            replace hsh := zkl_k hsh
            refine z_lcmp_ne (pc' := 237) (tgt := 241) dL_done_233 dL_done_234 (by decide) g149 g150 rfl (fun q => ?_) (fun q => ?_)
            · replace hsh := zif_f q hsh
              cases hsh
            · replace hsh := zif_t q hsh
              refine z_iconst (pc' := 238) dL_done_237 rfl ?_
              refine z_goto (tgt := 242) dL_done_238 (by decide) ?_
              refine z_istore (pc' := 244) [(7, .int (zi (1 : Int))), (0, .ref a_p0), (1, .int (zi p1)), (2, .long (zl q2)), (5, .int (zi q8))] dL_done_242 (by decide) rfl rfl ?_
              refine z_lv [(0, .ref a_p0), (1, .int (zi p1)), (2, .long (zl q2)), (5, .int (zi q8)), (7, .int (zi (1 : Int)))] [1, 2, 3, 4, 0] rfl ?_
              refine z_drop ?_
              exact zj_L_done_J244 hO146 hsh
