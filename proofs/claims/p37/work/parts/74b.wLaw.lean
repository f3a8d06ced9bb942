noncomputable def sh_L_errors_L561 (F : Nat) (A_p0 : zO) (q2 : Int) (k : Int → Option (Int)) : Nat → Int → Option (Int)
  | 0, _ => none
  | N + 1, v152 => zkr v152 (zkr q2 (if v152 < q2 then (kn_ready A_p0 v152).bind (fun (q156 : Int) => if q156 = (1 : Int) then (kn_hung A_p0 v152).bind (fun (q159 : Int) => if q159 = (1 : Int) then (kt_hang A_p0 v152).bind (fun (q171 : Int) => if q171 = (-103 : Int) then (kn_slices A_p0 v152).bind (fun (q174 : Int) => if q174 < (6 : Int) then sh_L_errors_L561 F A_p0 q2 k N (v152 + (1 : Int)) else (kt_add A_p0 v152 (1 : Int) (1 : Int)).bind (fun (q177 : Int) => if q177 = (-103 : Int) then sh_L_errors_L561 F A_p0 q2 k N (v152 + (1 : Int)) else none)) else none) else (kt_release A_p0 v152).bind (fun (q162 : Int) => if q162 = (-103 : Int) then (kn_slices A_p0 v152).bind (fun (q165 : Int) => if q165 < (6 : Int) then sh_L_errors_L561 F A_p0 q2 k N (v152 + (1 : Int)) else (kt_add A_p0 v152 (1 : Int) (1 : Int)).bind (fun (q168 : Int) => if q168 = (-103 : Int) then sh_L_errors_L561 F A_p0 q2 k N (v152 + (1 : Int)) else none)) else none)) else (kt_draw A_p0 v152).bind (fun (q180 : Int) => if q180 = (-103 : Int) then (kn_hung A_p0 v152).bind (fun (q183 : Int) => if q183 = (1 : Int) then (kt_hang A_p0 v152).bind (fun (q195 : Int) => if q195 = (-103 : Int) then (kn_slices A_p0 v152).bind (fun (q198 : Int) => if q198 < (6 : Int) then sh_L_errors_L561 F A_p0 q2 k N (v152 + (1 : Int)) else (kt_add A_p0 v152 (1 : Int) (1 : Int)).bind (fun (q201 : Int) => if q201 = (-103 : Int) then sh_L_errors_L561 F A_p0 q2 k N (v152 + (1 : Int)) else none)) else none) else (kt_release A_p0 v152).bind (fun (q186 : Int) => if q186 = (-103 : Int) then (kn_slices A_p0 v152).bind (fun (q189 : Int) => if q189 < (6 : Int) then sh_L_errors_L561 F A_p0 q2 k N (v152 + (1 : Int)) else (kt_add A_p0 v152 (1 : Int) (1 : Int)).bind (fun (q192 : Int) => if q192 = (-103 : Int) then sh_L_errors_L561 F A_p0 q2 k N (v152 + (1 : Int)) else none)) else none)) else none)) else k v152))
noncomputable def sh_L_errors (F : Nat) (A_p0 : zO) : Option (Int) := (kd_pointCount A_p0).bind (fun (q2 : Int) => (kt_append A_p0 (256 : Int)).bind (fun (q5 : Int) => if q5 = (-102 : Int) then (kt_append A_p0 (-1 : Int)).bind (fun (q8 : Int) => if q8 = (-102 : Int) then (kt_drawn A_p0 q2).bind (fun (q11 : Int) => if q11 = (-101 : Int) then (kt_remaining A_p0 (-1 : Int)).bind (fun (q14 : Int) => if q14 = (-101 : Int) then (kt_slices A_p0 q2).bind (fun (q17 : Int) => if q17 = (-101 : Int) then (kt_grade A_p0 q2 (-1 : Int)).bind (fun (q20 : Int) => if q20 = (-101 : Int) then (kt_grade A_p0 (0 : Int) (-1 : Int)).bind (fun (q23 : Int) => if q23 = (-102 : Int) then (kt_grade A_p0 (0 : Int) (100 : Int)).bind (fun (q26 : Int) => if q26 = (-102 : Int) then (kt_hung A_p0 q2).bind (fun (q29 : Int) => if q29 = (-101 : Int) then (kt_draw A_p0 q2).bind (fun (q32 : Int) => if q32 = (-101 : Int) then (kt_draw A_p0 (-1 : Int)).bind (fun (q35 : Int) => if q35 = (-101 : Int) then (kt_byOrder A_p0 (0 : Int)).bind (fun (q38 : Int) => if q38 = (-102 : Int) then (kt_byOrder A_p0 (100 : Int)).bind (fun (q41 : Int) => if q41 = (-102 : Int) then (kt_hang A_p0 q2).bind (fun (q44 : Int) => if q44 = (-101 : Int) then (kt_release A_p0 q2).bind (fun (q47 : Int) => if q47 = (-101 : Int) then (kt_add A_p0 q2 (0 : Int) (0 : Int)).bind (fun (q50 : Int) => if q50 = (-101 : Int) then (kt_add A_p0 (0 : Int) (0 : Int) (0 : Int)).bind (fun (q53 : Int) => if q53 = (-102 : Int) then (kt_add A_p0 (0 : Int) (10 : Int) (0 : Int)).bind (fun (q56 : Int) => if q56 = (-102 : Int) then (kt_add A_p0 (0 : Int) (1 : Int) (10 : Int)).bind (fun (q59 : Int) => if q59 = (-102 : Int) then (kt_setBound A_p0 (0 : Int)).bind (fun (q62 : Int) => if q62 = (-102 : Int) then (kt_setBound A_p0 (10 : Int)).bind (fun (q65 : Int) => if q65 = (-102 : Int) then (kt_ready A_p0 q2).bind (fun (q68 : Int) => if q68 = (-101 : Int) then (kt_blockers A_p0 q2).bind (fun (q71 : Int) => if q71 = (-101 : Int) then (kt_slack A_p0 (-1 : Int)).bind (fun (q74 : Int) => if q74 = (-101 : Int) then (kt_ahead A_p0 (-1 : Int)).bind (fun (q77 : Int) => if q77 = (-102 : Int) then (kt_ahead A_p0 (100 : Int)).bind (fun (q80 : Int) => if q80 = (-102 : Int) then (kt_waste A_p0 q2 (0 : Int)).bind (fun (q83 : Int) => if q83 = (-101 : Int) then (kt_waste A_p0 (0 : Int) (0 : Int)).bind (fun (q86 : Int) => if q86 = (-102 : Int) then (kt_waste A_p0 (0 : Int) (10 : Int)).bind (fun (q89 : Int) => if q89 = (-102 : Int) then (kt_bucketsFor A_p0 q2 (0 : Int)).bind (fun (q92 : Int) => if q92 = (-101 : Int) then (kt_bucketsFor A_p0 (0 : Int) (0 : Int)).bind (fun (q95 : Int) => if q95 = (-102 : Int) then (kt_bucketsFor A_p0 (0 : Int) (55 : Int)).bind (fun (q98 : Int) => if q98 = (-102 : Int) then (kt_most A_p0 q2).bind (fun (q101 : Int) => if q101 = (-101 : Int) then (kt_best A_p0 (0 : Int) (0 : Int)).bind (fun (q104 : Int) => if q104 = (-102 : Int) then (kt_best A_p0 (5 : Int) (0 : Int)).bind (fun (q107 : Int) => if q107 = (-102 : Int) then (kt_best A_p0 (2 : Int) (3 : Int)).bind (fun (q110 : Int) => if q110 = (-102 : Int) then (kt_best A_p0 (2 : Int) (-1 : Int)).bind (fun (q113 : Int) => if q113 = (-102 : Int) then (kt_origins A_p0 (0 : Int) (0 : Int)).bind (fun (q116 : Int) => if q116 = (-102 : Int) then (kt_origins A_p0 (10 : Int) (0 : Int)).bind (fun (q119 : Int) => if q119 = (-102 : Int) then (kt_origins A_p0 (2 : Int) (100 : Int)).bind (fun (q122 : Int) => if q122 = (-102 : Int) then (kt_origins A_p0 (2 : Int) (-1 : Int)).bind (fun (q125 : Int) => if q125 = (-102 : Int) then (kt_script A_p0 (0 : Int) (0 : Int)).bind (fun (q128 : Int) => if q128 = (-102 : Int) then (kt_script A_p0 (5 : Int) (0 : Int)).bind (fun (q131 : Int) => if q131 = (-102 : Int) then (kt_script A_p0 (1 : Int) (10000 : Int)).bind (fun (q134 : Int) => if q134 = (-102 : Int) then (kt_script A_p0 (1 : Int) (-1 : Int)).bind (fun (q137 : Int) => if q137 = (-102 : Int) then (kt_simulate A_p0 (1 : Int) (0 : Int)).bind (fun (q140 : Int) => if q140 = (-102 : Int) then (kt_simulate A_p0 (1 : Int) (101 : Int)).bind (fun (q143 : Int) => if q143 = (-102 : Int) then (kt_save A_p0 (2 : Int)).bind (fun (q146 : Int) => if q146 = (-101 : Int) then (kt_restore A_p0 (-1 : Int)).bind (fun (q149 : Int) => if q149 = (-101 : Int) then sh_L_errors_L561 F A_p0 q2 (fun (v203 : Int) => some ((1 : Int))) 17 (0 : Int) else none) else none) else none) else none) else none) else none) else none) else none) else none) else none) else none) else none) else none) else none) else none) else none) else none) else none) else none) else none) else none) else none) else none) else none) else none) else none) else none) else none) else none) else none) else none) else none) else none) else none) else none) else none) else none) else none) else none) else none) else none) else none) else none) else none) else none) else none) else none) else none) else none))
theorem mL_errors_k171 : Cond.constantLong RL 171 (10000) ∈ wsL_errors := List.mem_of_getElem? (i := 1) rfl
theorem mL_errors_k173 : Cond.constantLong RL 173 (-1) ∈ wsL_errors := List.mem_of_getElem? (i := 2) rfl
set_option maxRecDepth 100000 in
set_option maxHeartbeats 4000000 in
theorem zl_L_errors_L561 {p : Program} {l : Launch} {e : Env} {s : State} {m : MethodId} {args : Array Value} {below : List Frame} {meth : Method} {c : Code} {A : Nat → Prop} {D : va_G} {J : Nat → ClassId} {F : Nat} {a_p0 : Nat} {A_p0 : zO} {q2 : Int} {res : Int} {k : Int → Option (Int)} (hk : ∀ (v152' : Int) (ws_p0' : va_W), cOB J a_p0 A_p0 ws_p0' → k v152' = some res → Z p l e ({ frames := 26, cells := 227, slots := 1362, locals := 993 } : Room) s m args below meth c (MQ below (zQ D J A (fun rv w9 => rv = some (.int (zi res)) ∧ cOB J a_p0 A_p0 w9)) args s 227 1362 A) cL_errors 4 wsL_errors RL D J A (some .boolean) (yL_errors.name, []) 227 1362 ws_p0' [(2, .int (zi (1 : Int)))] 655 []) : ∀ (N : Nat) (v152 : Int) (ws_p0 : va_W) (cs ss : Nat), cOB J a_p0 A_p0 ws_p0 → cs + 8 * N ≤ 227 → ss + 48 * N ≤ 1362 → sh_L_errors_L561 F A_p0 q2 k N v152 = some res → Z p l e ({ frames := 26, cells := 227, slots := 1362, locals := 993 } : Room) s m args below meth c (MQ below (zQ D J A (fun rv w9 => rv = some (.int (zi res)) ∧ cOB J a_p0 A_p0 w9)) args s 227 1362 A) cL_errors 4 wsL_errors RL D J A (some .boolean) (yL_errors.name, []) (cs + 0) (ss + 0) ws_p0 [(0, .ref a_p0), (1, .int (zi q2)), (2, .int (zi (1 : Int))), (3, .int (zi v152))] 561 [] := by
  intro N
  induction N with
  | zero =>
    intro v152 ws_p0 cs ss hO_p0 hcs hss hsh
    exact absurd hsh (by simp [sh_L_errors_L561])
  | succ N ih =>
    intro v152 ws_p0 cs ss hO_p0 hcs hss hsh
    rw [sh_L_errors_L561] at hsh
    refine z_iload_n (pc' := 562) 3 dL_errors_561 rfl rfl rfl ?_
    refine z_iload_n (pc' := 563) 1 dL_errors_562 rfl rfl rfl ?_
    have g153 := zkr_p hsh
    replace hsh := zkr_k hsh
    have g154 := zkr_p hsh
    replace hsh := zkr_k hsh
    refine z_icmp_ge (pc' := 566) (tgt := 655) dL_errors_563 (by decide) g153 g154 rfl (fun q => ?_) (fun q => ?_)
    · replace hsh := zif_f q hsh
      refine z_lv [(2, .int (zi (1 : Int)))] [2] rfl ?_
      refine z_widen 227 1362 (by omega) (by omega) ?_
      exact hk _ _ hO_p0 hsh
    · replace hsh := zif_t q hsh
      refine z_iload_n (pc' := 567) 2 dL_errors_566 rfl rfl rfl ?_
      refine z_if_eq (pc' := 570) (tgt := 647) dL_errors_567 (by decide) (by decide) rfl (fun q => absurd q (by decide)) (fun q => ?_)
      refine z_aload_n (pc' := 571) 0 dL_errors_570 rfl rfl rfl ?_
      refine z_iload_n (pc' := 572) 3 dL_errors_571 rfl rfl rfl ?_
      obtain ⟨q156, h157, hsh⟩ := zbind hsh
      refine z_callSw (pc' := 575) (As := [.ref a_p0, .int (zi v152)]) (rest := []) (wr := []) 2 (oc_ready_n l D J hO_p0 v152 h157) dL_errors_572 gL_errors_L_ready rfl rfl rfl (by decide +kernel) ⟨Nat.le_of_ble_eq_true rfl, Nat.le_of_ble_eq_true rfl⟩ ⟨by dsimp only; omega, by dsimp only; omega⟩ (z_spl_nil _) rfl rfl (Nat.le_of_ble_eq_true rfl) rfl (fun E w9 hq => hq.elim) (fun rv w155 hq => ?_)
      obtain ⟨rfl, hr155, hO155⟩ := hq
      refine z_ws w155 rfl ?_
      refine z_iconst (pc' := 576) dL_errors_575 rfl ?_
      refine z_icmp_eq (pc' := 579) (tgt := 589) dL_errors_576 (by decide) hr155 (by decide) rfl (fun q => ?_) (fun q => ?_)
      · replace hsh := zif_t q hsh
        refine z_aload_n (pc' := 590) 0 dL_errors_589 rfl rfl rfl ?_
        refine z_iload_n (pc' := 591) 3 dL_errors_590 rfl rfl rfl ?_
        obtain ⟨q159, h160, hsh⟩ := zbind hsh
        refine z_callSw (pc' := 594) (As := [.ref a_p0, .int (zi v152)]) (rest := []) (wr := []) 2 (oc_hung_n l D J hO155 v152 h160) dL_errors_591 gL_errors_L_hung rfl rfl rfl (by decide +kernel) ⟨Nat.le_of_ble_eq_true rfl, Nat.le_of_ble_eq_true rfl⟩ ⟨by dsimp only; omega, by dsimp only; omega⟩ (z_spl_nil _) rfl rfl (Nat.le_of_ble_eq_true rfl) rfl (fun E w9 hq => hq.elim) (fun rv w158 hq => ?_)
        obtain ⟨rfl, hr158, hO158⟩ := hq
        refine z_ws w158 rfl ?_
        refine z_iconst (pc' := 595) dL_errors_594 rfl ?_
        refine z_icmp_ne (pc' := 598) (tgt := 611) dL_errors_595 (by decide) hr158 (by decide) rfl (fun q => ?_) (fun q => ?_)
        · replace hsh := zif_f q hsh
          refine z_aload_n (pc' := 612) 0 dL_errors_611 rfl rfl rfl ?_
          refine z_iload_n (pc' := 613) 3 dL_errors_612 rfl rfl rfl ?_
          obtain ⟨q162, h163, hsh⟩ := zbind hsh
          refine z_callSw (pc' := 616) (As := [.ref a_p0, .int (zi v152)]) (rest := []) (wr := []) 2 (oc_release_t l D J hO158 v152 h163) dL_errors_613 gL_errors_L_release rfl rfl rfl (by decide +kernel) ⟨Nat.le_of_ble_eq_true rfl, Nat.le_of_ble_eq_true rfl⟩ ⟨by dsimp only; omega, by dsimp only; omega⟩ (z_spl_nil _) rfl rfl (Nat.le_of_ble_eq_true rfl) rfl (fun E w9 hq => hq.elim) (fun rv w161 hq => ?_)
          obtain ⟨rfl, hr161, hO161⟩ := hq
          refine z_ws w161 rfl ?_
          refine z_widen (cs + 2) (ss + 12) (by omega) (by omega) ?_
          refine z_bipush (pc' := 618) dL_errors_616 (by decide) rfl ?_
          refine z_icmp_ne (pc' := 621) (tgt := 647) dL_errors_618 (by decide) hr161 (by decide) rfl (fun q => ?_) (fun q => ?_)
          · replace hsh := zif_f q hsh
            cases hsh
          · replace hsh := zif_t q hsh
            refine z_aload_n (pc' := 622) 0 dL_errors_621 rfl rfl rfl ?_
            refine z_iload_n (pc' := 623) 3 dL_errors_622 rfl rfl rfl ?_
            obtain ⟨q165, h166, hsh⟩ := zbind hsh
            refine z_callSw (pc' := 626) (As := [.ref a_p0, .int (zi v152)]) (rest := []) (wr := []) 2 (oc_slices_n l D J hO161 v152 h166) dL_errors_623 gL_errors_L_slices rfl rfl rfl (by decide +kernel) ⟨Nat.le_of_ble_eq_true rfl, Nat.le_of_ble_eq_true rfl⟩ ⟨by dsimp only; omega, by dsimp only; omega⟩ (z_spl_nil _) rfl rfl (Nat.le_of_ble_eq_true rfl) rfl (fun E w9 hq => hq.elim) (fun rv w164 hq => ?_)
            obtain ⟨rfl, hr164, hO164⟩ := hq
            refine z_ws w164 rfl ?_
            refine z_bipush (pc' := 628) dL_errors_626 (by decide) rfl ?_
            refine z_icmp_lt (pc' := 631) (tgt := 643) dL_errors_628 (by decide) hr164 (by decide) rfl (fun q => ?_) (fun q => ?_)
            · replace hsh := zif_t q hsh
              refine z_iconst (pc' := 644) dL_errors_643 rfl ?_
              refine z_goto (tgt := 648) dL_errors_644 (by decide) ?_
              refine z_istore_n (pc' := 649) [(2, .int (zi (1 : Int))), (0, .ref a_p0), (1, .int (zi q2)), (3, .int (zi v152))] dL_errors_648 rfl (by decide) rfl rfl ?_
              refine z_iinc (pc' := 652) [(3, .int (zi (v152 + (1 : Int)))), (2, .int (zi (1 : Int))), (0, .ref a_p0), (1, .int (zi q2))] 3 dL_errors_649 rfl (by decide) rfl rfl ?_
              refine z_goto (tgt := 561) dL_errors_652 (by decide) ?_
              refine z_lv [(0, .ref a_p0), (1, .int (zi q2)), (2, .int (zi (1 : Int))), (3, .int (zi (v152 + (1 : Int))))] [2, 3, 1, 0] rfl ?_
              refine z_widen (cs + 8) (ss + 48) (by omega) (by omega) ?_
              exact ih _ _ _ _ hO164 (by omega) (by omega) hsh
            · replace hsh := zif_f q hsh
              refine z_aload_n (pc' := 632) 0 dL_errors_631 rfl rfl rfl ?_
              refine z_iload_n (pc' := 633) 3 dL_errors_632 rfl rfl rfl ?_
              refine z_iconst (pc' := 634) dL_errors_633 rfl ?_
              refine z_iconst (pc' := 635) dL_errors_634 rfl ?_
              obtain ⟨q168, h169, hsh⟩ := zbind hsh
              refine z_callSw (pc' := 638) (As := [.ref a_p0, .int (zi v152), .int (zi (1 : Int)), .int (zi (1 : Int))]) (rest := []) (wr := []) 4 (oc_add_t l D J hO164 v152 (1 : Int) (1 : Int) h169) dL_errors_635 gL_errors_L_add rfl rfl rfl (by decide +kernel) ⟨Nat.le_of_ble_eq_true rfl, Nat.le_of_ble_eq_true rfl⟩ ⟨by dsimp only; omega, by dsimp only; omega⟩ (z_spl_nil _) rfl rfl (Nat.le_of_ble_eq_true rfl) rfl (fun E w9 hq => hq.elim) (fun rv w167 hq => ?_)
              obtain ⟨rfl, hr167, hO167⟩ := hq
              refine z_ws w167 rfl ?_
              refine z_widen (cs + 6) (ss + 36) (by omega) (by omega) ?_
              refine z_bipush (pc' := 640) dL_errors_638 (by decide) rfl ?_
              refine z_icmp_ne (pc' := 643) (tgt := 647) dL_errors_640 (by decide) hr167 (by decide) rfl (fun q => ?_) (fun q => ?_)
              · replace hsh := zif_f q hsh
                cases hsh
              · replace hsh := zif_t q hsh
                refine z_iconst (pc' := 644) dL_errors_643 rfl ?_
                refine z_goto (tgt := 648) dL_errors_644 (by decide) ?_
                refine z_istore_n (pc' := 649) [(2, .int (zi (1 : Int))), (0, .ref a_p0), (1, .int (zi q2)), (3, .int (zi v152))] dL_errors_648 rfl (by decide) rfl rfl ?_
                refine z_iinc (pc' := 652) [(3, .int (zi (v152 + (1 : Int)))), (2, .int (zi (1 : Int))), (0, .ref a_p0), (1, .int (zi q2))] 3 dL_errors_649 rfl (by decide) rfl rfl ?_
                refine z_goto (tgt := 561) dL_errors_652 (by decide) ?_
                refine z_lv [(0, .ref a_p0), (1, .int (zi q2)), (2, .int (zi (1 : Int))), (3, .int (zi (v152 + (1 : Int))))] [2, 3, 1, 0] rfl ?_
                refine z_widen (cs + 8) (ss + 48) (by omega) (by omega) ?_
                exact ih _ _ _ _ hO167 (by omega) (by omega) hsh
        · replace hsh := zif_t q hsh
          refine z_aload_n (pc' := 599) 0 dL_errors_598 rfl rfl rfl ?_
          refine z_iload_n (pc' := 600) 3 dL_errors_599 rfl rfl rfl ?_
          obtain ⟨q171, h172, hsh⟩ := zbind hsh
          refine z_callSw (pc' := 603) (As := [.ref a_p0, .int (zi v152)]) (rest := []) (wr := []) 2 (oc_hang_t l D J hO158 v152 h172) dL_errors_600 gL_errors_L_hang rfl rfl rfl (by decide +kernel) ⟨Nat.le_of_ble_eq_true rfl, Nat.le_of_ble_eq_true rfl⟩ ⟨by dsimp only; omega, by dsimp only; omega⟩ (z_spl_nil _) rfl rfl (Nat.le_of_ble_eq_true rfl) rfl (fun E w9 hq => hq.elim) (fun rv w170 hq => ?_)
          obtain ⟨rfl, hr170, hO170⟩ := hq
          refine z_ws w170 rfl ?_
          refine z_widen (cs + 2) (ss + 12) (by omega) (by omega) ?_
          refine z_bipush (pc' := 605) dL_errors_603 (by decide) rfl ?_
          refine z_icmp_ne (pc' := 608) (tgt := 647) dL_errors_605 (by decide) hr170 (by decide) rfl (fun q => ?_) (fun q => ?_)
          · replace hsh := zif_f q hsh
            cases hsh
          · replace hsh := zif_t q hsh
            refine z_goto (tgt := 621) dL_errors_608 (by decide) ?_
            refine z_aload_n (pc' := 622) 0 dL_errors_621 rfl rfl rfl ?_
            refine z_iload_n (pc' := 623) 3 dL_errors_622 rfl rfl rfl ?_
            obtain ⟨q174, h175, hsh⟩ := zbind hsh
            refine z_callSw (pc' := 626) (As := [.ref a_p0, .int (zi v152)]) (rest := []) (wr := []) 2 (oc_slices_n l D J hO170 v152 h175) dL_errors_623 gL_errors_L_slices rfl rfl rfl (by decide +kernel) ⟨Nat.le_of_ble_eq_true rfl, Nat.le_of_ble_eq_true rfl⟩ ⟨by dsimp only; omega, by dsimp only; omega⟩ (z_spl_nil _) rfl rfl (Nat.le_of_ble_eq_true rfl) rfl (fun E w9 hq => hq.elim) (fun rv w173 hq => ?_)
            obtain ⟨rfl, hr173, hO173⟩ := hq
            refine z_ws w173 rfl ?_
            refine z_bipush (pc' := 628) dL_errors_626 (by decide) rfl ?_
            refine z_icmp_lt (pc' := 631) (tgt := 643) dL_errors_628 (by decide) hr173 (by decide) rfl (fun q => ?_) (fun q => ?_)
            · replace hsh := zif_t q hsh
              refine z_iconst (pc' := 644) dL_errors_643 rfl ?_
              refine z_goto (tgt := 648) dL_errors_644 (by decide) ?_
              refine z_istore_n (pc' := 649) [(2, .int (zi (1 : Int))), (0, .ref a_p0), (1, .int (zi q2)), (3, .int (zi v152))] dL_errors_648 rfl (by decide) rfl rfl ?_
              refine z_iinc (pc' := 652) [(3, .int (zi (v152 + (1 : Int)))), (2, .int (zi (1 : Int))), (0, .ref a_p0), (1, .int (zi q2))] 3 dL_errors_649 rfl (by decide) rfl rfl ?_
              refine z_goto (tgt := 561) dL_errors_652 (by decide) ?_
              refine z_lv [(0, .ref a_p0), (1, .int (zi q2)), (2, .int (zi (1 : Int))), (3, .int (zi (v152 + (1 : Int))))] [2, 3, 1, 0] rfl ?_
              refine z_widen (cs + 8) (ss + 48) (by omega) (by omega) ?_
              exact ih _ _ _ _ hO173 (by omega) (by omega) hsh
            · replace hsh := zif_f q hsh
              refine z_aload_n (pc' := 632) 0 dL_errors_631 rfl rfl rfl ?_
              refine z_iload_n (pc' := 633) 3 dL_errors_632 rfl rfl rfl ?_
              refine z_iconst (pc' := 634) dL_errors_633 rfl ?_
              refine z_iconst (pc' := 635) dL_errors_634 rfl ?_
              obtain ⟨q177, h178, hsh⟩ := zbind hsh
              refine z_callSw (pc' := 638) (As := [.ref a_p0, .int (zi v152), .int (zi (1 : Int)), .int (zi (1 : Int))]) (rest := []) (wr := []) 4 (oc_add_t l D J hO173 v152 (1 : Int) (1 : Int) h178) dL_errors_635 gL_errors_L_add rfl rfl rfl (by decide +kernel) ⟨Nat.le_of_ble_eq_true rfl, Nat.le_of_ble_eq_true rfl⟩ ⟨by dsimp only; omega, by dsimp only; omega⟩ (z_spl_nil _) rfl rfl (Nat.le_of_ble_eq_true rfl) rfl (fun E w9 hq => hq.elim) (fun rv w176 hq => ?_)
              obtain ⟨rfl, hr176, hO176⟩ := hq
              refine z_ws w176 rfl ?_
              refine z_widen (cs + 6) (ss + 36) (by omega) (by omega) ?_
              refine z_bipush (pc' := 640) dL_errors_638 (by decide) rfl ?_
              refine z_icmp_ne (pc' := 643) (tgt := 647) dL_errors_640 (by decide) hr176 (by decide) rfl (fun q => ?_) (fun q => ?_)
              · replace hsh := zif_f q hsh
                cases hsh
              · replace hsh := zif_t q hsh
                refine z_iconst (pc' := 644) dL_errors_643 rfl ?_
                refine z_goto (tgt := 648) dL_errors_644 (by decide) ?_
                refine z_istore_n (pc' := 649) [(2, .int (zi (1 : Int))), (0, .ref a_p0), (1, .int (zi q2)), (3, .int (zi v152))] dL_errors_648 rfl (by decide) rfl rfl ?_
                refine z_iinc (pc' := 652) [(3, .int (zi (v152 + (1 : Int)))), (2, .int (zi (1 : Int))), (0, .ref a_p0), (1, .int (zi q2))] 3 dL_errors_649 rfl (by decide) rfl rfl ?_
                refine z_goto (tgt := 561) dL_errors_652 (by decide) ?_
                refine z_lv [(0, .ref a_p0), (1, .int (zi q2)), (2, .int (zi (1 : Int))), (3, .int (zi (v152 + (1 : Int))))] [2, 3, 1, 0] rfl ?_
                refine z_widen (cs + 8) (ss + 48) (by omega) (by omega) ?_
                exact ih _ _ _ _ hO176 (by omega) (by omega) hsh
      · replace hsh := zif_f q hsh
        refine z_aload_n (pc' := 580) 0 dL_errors_579 rfl rfl rfl ?_
        refine z_iload_n (pc' := 581) 3 dL_errors_580 rfl rfl rfl ?_
        obtain ⟨q180, h181, hsh⟩ := zbind hsh
        refine z_callSw (pc' := 584) (As := [.ref a_p0, .int (zi v152)]) (rest := []) (wr := []) 2 (oc_draw_t l D J hO155 v152 h181) dL_errors_581 gL_errors_L_draw rfl rfl rfl (by decide +kernel) ⟨Nat.le_of_ble_eq_true rfl, Nat.le_of_ble_eq_true rfl⟩ ⟨by dsimp only; omega, by dsimp only; omega⟩ (z_spl_nil _) rfl rfl (Nat.le_of_ble_eq_true rfl) rfl (fun E w9 hq => hq.elim) (fun rv w179 hq => ?_)
        obtain ⟨rfl, hr179, hO179⟩ := hq
        refine z_ws w179 rfl ?_
        refine z_widen (cs + 2) (ss + 12) (by omega) (by omega) ?_
        refine z_bipush (pc' := 586) dL_errors_584 (by decide) rfl ?_
        refine z_icmp_ne (pc' := 589) (tgt := 647) dL_errors_586 (by decide) hr179 (by decide) rfl (fun q => ?_) (fun q => ?_)
        · replace hsh := zif_f q hsh
          cases hsh
        · replace hsh := zif_t q hsh
          refine z_aload_n (pc' := 590) 0 dL_errors_589 rfl rfl rfl ?_
          refine z_iload_n (pc' := 591) 3 dL_errors_590 rfl rfl rfl ?_
          obtain ⟨q183, h184, hsh⟩ := zbind hsh
          refine z_callSw (pc' := 594) (As := [.ref a_p0, .int (zi v152)]) (rest := []) (wr := []) 2 (oc_hung_n l D J hO179 v152 h184) dL_errors_591 gL_errors_L_hung rfl rfl rfl (by decide +kernel) ⟨Nat.le_of_ble_eq_true rfl, Nat.le_of_ble_eq_true rfl⟩ ⟨by dsimp only; omega, by dsimp only; omega⟩ (z_spl_nil _) rfl rfl (Nat.le_of_ble_eq_true rfl) rfl (fun E w9 hq => hq.elim) (fun rv w182 hq => ?_)
          obtain ⟨rfl, hr182, hO182⟩ := hq
          refine z_ws w182 rfl ?_
          refine z_iconst (pc' := 595) dL_errors_594 rfl ?_
          refine z_icmp_ne (pc' := 598) (tgt := 611) dL_errors_595 (by decide) hr182 (by decide) rfl (fun q => ?_) (fun q => ?_)
          · replace hsh := zif_f q hsh
            refine z_aload_n (pc' := 612) 0 dL_errors_611 rfl rfl rfl ?_
            refine z_iload_n (pc' := 613) 3 dL_errors_612 rfl rfl rfl ?_
            obtain ⟨q186, h187, hsh⟩ := zbind hsh
            refine z_callSw (pc' := 616) (As := [.ref a_p0, .int (zi v152)]) (rest := []) (wr := []) 2 (oc_release_t l D J hO182 v152 h187) dL_errors_613 gL_errors_L_release rfl rfl rfl (by decide +kernel) ⟨Nat.le_of_ble_eq_true rfl, Nat.le_of_ble_eq_true rfl⟩ ⟨by dsimp only; omega, by dsimp only; omega⟩ (z_spl_nil _) rfl rfl (Nat.le_of_ble_eq_true rfl) rfl (fun E w9 hq => hq.elim) (fun rv w185 hq => ?_)
            obtain ⟨rfl, hr185, hO185⟩ := hq
            refine z_ws w185 rfl ?_
            refine z_widen (cs + 4) (ss + 24) (by omega) (by omega) ?_
            refine z_bipush (pc' := 618) dL_errors_616 (by decide) rfl ?_
            refine z_icmp_ne (pc' := 621) (tgt := 647) dL_errors_618 (by decide) hr185 (by decide) rfl (fun q => ?_) (fun q => ?_)
            · replace hsh := zif_f q hsh
              cases hsh
            · replace hsh := zif_t q hsh
              refine z_aload_n (pc' := 622) 0 dL_errors_621 rfl rfl rfl ?_
              refine z_iload_n (pc' := 623) 3 dL_errors_622 rfl rfl rfl ?_
              obtain ⟨q189, h190, hsh⟩ := zbind hsh
              refine z_callSw (pc' := 626) (As := [.ref a_p0, .int (zi v152)]) (rest := []) (wr := []) 2 (oc_slices_n l D J hO185 v152 h190) dL_errors_623 gL_errors_L_slices rfl rfl rfl (by decide +kernel) ⟨Nat.le_of_ble_eq_true rfl, Nat.le_of_ble_eq_true rfl⟩ ⟨by dsimp only; omega, by dsimp only; omega⟩ (z_spl_nil _) rfl rfl (Nat.le_of_ble_eq_true rfl) rfl (fun E w9 hq => hq.elim) (fun rv w188 hq => ?_)
              obtain ⟨rfl, hr188, hO188⟩ := hq
              refine z_ws w188 rfl ?_
              refine z_bipush (pc' := 628) dL_errors_626 (by decide) rfl ?_
              refine z_icmp_lt (pc' := 631) (tgt := 643) dL_errors_628 (by decide) hr188 (by decide) rfl (fun q => ?_) (fun q => ?_)
              · replace hsh := zif_t q hsh
                refine z_iconst (pc' := 644) dL_errors_643 rfl ?_
                refine z_goto (tgt := 648) dL_errors_644 (by decide) ?_
                refine z_istore_n (pc' := 649) [(2, .int (zi (1 : Int))), (0, .ref a_p0), (1, .int (zi q2)), (3, .int (zi v152))] dL_errors_648 rfl (by decide) rfl rfl ?_
                refine z_iinc (pc' := 652) [(3, .int (zi (v152 + (1 : Int)))), (2, .int (zi (1 : Int))), (0, .ref a_p0), (1, .int (zi q2))] 3 dL_errors_649 rfl (by decide) rfl rfl ?_
                refine z_goto (tgt := 561) dL_errors_652 (by decide) ?_
                refine z_lv [(0, .ref a_p0), (1, .int (zi q2)), (2, .int (zi (1 : Int))), (3, .int (zi (v152 + (1 : Int))))] [2, 3, 1, 0] rfl ?_
                refine z_widen (cs + 8) (ss + 48) (by omega) (by omega) ?_
                exact ih _ _ _ _ hO188 (by omega) (by omega) hsh
              · replace hsh := zif_f q hsh
                refine z_aload_n (pc' := 632) 0 dL_errors_631 rfl rfl rfl ?_
                refine z_iload_n (pc' := 633) 3 dL_errors_632 rfl rfl rfl ?_
                refine z_iconst (pc' := 634) dL_errors_633 rfl ?_
                refine z_iconst (pc' := 635) dL_errors_634 rfl ?_
                obtain ⟨q192, h193, hsh⟩ := zbind hsh
                refine z_callSw (pc' := 638) (As := [.ref a_p0, .int (zi v152), .int (zi (1 : Int)), .int (zi (1 : Int))]) (rest := []) (wr := []) 4 (oc_add_t l D J hO188 v152 (1 : Int) (1 : Int) h193) dL_errors_635 gL_errors_L_add rfl rfl rfl (by decide +kernel) ⟨Nat.le_of_ble_eq_true rfl, Nat.le_of_ble_eq_true rfl⟩ ⟨by dsimp only; omega, by dsimp only; omega⟩ (z_spl_nil _) rfl rfl (Nat.le_of_ble_eq_true rfl) rfl (fun E w9 hq => hq.elim) (fun rv w191 hq => ?_)
                obtain ⟨rfl, hr191, hO191⟩ := hq
                refine z_ws w191 rfl ?_
                refine z_widen (cs + 8) (ss + 48) (by omega) (by omega) ?_
                refine z_bipush (pc' := 640) dL_errors_638 (by decide) rfl ?_
                refine z_icmp_ne (pc' := 643) (tgt := 647) dL_errors_640 (by decide) hr191 (by decide) rfl (fun q => ?_) (fun q => ?_)
                · replace hsh := zif_f q hsh
                  cases hsh
                · replace hsh := zif_t q hsh
                  refine z_iconst (pc' := 644) dL_errors_643 rfl ?_
                  refine z_goto (tgt := 648) dL_errors_644 (by decide) ?_
                  refine z_istore_n (pc' := 649) [(2, .int (zi (1 : Int))), (0, .ref a_p0), (1, .int (zi q2)), (3, .int (zi v152))] dL_errors_648 rfl (by decide) rfl rfl ?_
                  refine z_iinc (pc' := 652) [(3, .int (zi (v152 + (1 : Int)))), (2, .int (zi (1 : Int))), (0, .ref a_p0), (1, .int (zi q2))] 3 dL_errors_649 rfl (by decide) rfl rfl ?_
                  refine z_goto (tgt := 561) dL_errors_652 (by decide) ?_
                  refine z_lv [(0, .ref a_p0), (1, .int (zi q2)), (2, .int (zi (1 : Int))), (3, .int (zi (v152 + (1 : Int))))] [2, 3, 1, 0] rfl ?_
                  refine z_widen (cs + 8) (ss + 48) (by omega) (by omega) ?_
                  exact ih _ _ _ _ hO191 (by omega) (by omega) hsh
          · replace hsh := zif_t q hsh
            refine z_aload_n (pc' := 599) 0 dL_errors_598 rfl rfl rfl ?_
            refine z_iload_n (pc' := 600) 3 dL_errors_599 rfl rfl rfl ?_
            obtain ⟨q195, h196, hsh⟩ := zbind hsh
            refine z_callSw (pc' := 603) (As := [.ref a_p0, .int (zi v152)]) (rest := []) (wr := []) 2 (oc_hang_t l D J hO182 v152 h196) dL_errors_600 gL_errors_L_hang rfl rfl rfl (by decide +kernel) ⟨Nat.le_of_ble_eq_true rfl, Nat.le_of_ble_eq_true rfl⟩ ⟨by dsimp only; omega, by dsimp only; omega⟩ (z_spl_nil _) rfl rfl (Nat.le_of_ble_eq_true rfl) rfl (fun E w9 hq => hq.elim) (fun rv w194 hq => ?_)
            obtain ⟨rfl, hr194, hO194⟩ := hq
            refine z_ws w194 rfl ?_
            refine z_widen (cs + 4) (ss + 24) (by omega) (by omega) ?_
            refine z_bipush (pc' := 605) dL_errors_603 (by decide) rfl ?_
            refine z_icmp_ne (pc' := 608) (tgt := 647) dL_errors_605 (by decide) hr194 (by decide) rfl (fun q => ?_) (fun q => ?_)
            · replace hsh := zif_f q hsh
              cases hsh
            · replace hsh := zif_t q hsh
              refine z_goto (tgt := 621) dL_errors_608 (by decide) ?_
              refine z_aload_n (pc' := 622) 0 dL_errors_621 rfl rfl rfl ?_
              refine z_iload_n (pc' := 623) 3 dL_errors_622 rfl rfl rfl ?_
              obtain ⟨q198, h199, hsh⟩ := zbind hsh
              refine z_callSw (pc' := 626) (As := [.ref a_p0, .int (zi v152)]) (rest := []) (wr := []) 2 (oc_slices_n l D J hO194 v152 h199) dL_errors_623 gL_errors_L_slices rfl rfl rfl (by decide +kernel) ⟨Nat.le_of_ble_eq_true rfl, Nat.le_of_ble_eq_true rfl⟩ ⟨by dsimp only; omega, by dsimp only; omega⟩ (z_spl_nil _) rfl rfl (Nat.le_of_ble_eq_true rfl) rfl (fun E w9 hq => hq.elim) (fun rv w197 hq => ?_)
              obtain ⟨rfl, hr197, hO197⟩ := hq
              refine z_ws w197 rfl ?_
              refine z_bipush (pc' := 628) dL_errors_626 (by decide) rfl ?_
              refine z_icmp_lt (pc' := 631) (tgt := 643) dL_errors_628 (by decide) hr197 (by decide) rfl (fun q => ?_) (fun q => ?_)
              · replace hsh := zif_t q hsh
                refine z_iconst (pc' := 644) dL_errors_643 rfl ?_
                refine z_goto (tgt := 648) dL_errors_644 (by decide) ?_
                refine z_istore_n (pc' := 649) [(2, .int (zi (1 : Int))), (0, .ref a_p0), (1, .int (zi q2)), (3, .int (zi v152))] dL_errors_648 rfl (by decide) rfl rfl ?_
                refine z_iinc (pc' := 652) [(3, .int (zi (v152 + (1 : Int)))), (2, .int (zi (1 : Int))), (0, .ref a_p0), (1, .int (zi q2))] 3 dL_errors_649 rfl (by decide) rfl rfl ?_
                refine z_goto (tgt := 561) dL_errors_652 (by decide) ?_
                refine z_lv [(0, .ref a_p0), (1, .int (zi q2)), (2, .int (zi (1 : Int))), (3, .int (zi (v152 + (1 : Int))))] [2, 3, 1, 0] rfl ?_
                refine z_widen (cs + 8) (ss + 48) (by omega) (by omega) ?_
                exact ih _ _ _ _ hO197 (by omega) (by omega) hsh
              · replace hsh := zif_f q hsh
                refine z_aload_n (pc' := 632) 0 dL_errors_631 rfl rfl rfl ?_
                refine z_iload_n (pc' := 633) 3 dL_errors_632 rfl rfl rfl ?_
                refine z_iconst (pc' := 634) dL_errors_633 rfl ?_
                refine z_iconst (pc' := 635) dL_errors_634 rfl ?_
                obtain ⟨q201, h202, hsh⟩ := zbind hsh
                refine z_callSw (pc' := 638) (As := [.ref a_p0, .int (zi v152), .int (zi (1 : Int)), .int (zi (1 : Int))]) (rest := []) (wr := []) 4 (oc_add_t l D J hO197 v152 (1 : Int) (1 : Int) h202) dL_errors_635 gL_errors_L_add rfl rfl rfl (by decide +kernel) ⟨Nat.le_of_ble_eq_true rfl, Nat.le_of_ble_eq_true rfl⟩ ⟨by dsimp only; omega, by dsimp only; omega⟩ (z_spl_nil _) rfl rfl (Nat.le_of_ble_eq_true rfl) rfl (fun E w9 hq => hq.elim) (fun rv w200 hq => ?_)
                obtain ⟨rfl, hr200, hO200⟩ := hq
                refine z_ws w200 rfl ?_
                refine z_widen (cs + 8) (ss + 48) (by omega) (by omega) ?_
                refine z_bipush (pc' := 640) dL_errors_638 (by decide) rfl ?_
                refine z_icmp_ne (pc' := 643) (tgt := 647) dL_errors_640 (by decide) hr200 (by decide) rfl (fun q => ?_) (fun q => ?_)
                · replace hsh := zif_f q hsh
                  cases hsh
                · replace hsh := zif_t q hsh
                  refine z_iconst (pc' := 644) dL_errors_643 rfl ?_
                  refine z_goto (tgt := 648) dL_errors_644 (by decide) ?_
                  refine z_istore_n (pc' := 649) [(2, .int (zi (1 : Int))), (0, .ref a_p0), (1, .int (zi q2)), (3, .int (zi v152))] dL_errors_648 rfl (by decide) rfl rfl ?_
                  refine z_iinc (pc' := 652) [(3, .int (zi (v152 + (1 : Int)))), (2, .int (zi (1 : Int))), (0, .ref a_p0), (1, .int (zi q2))] 3 dL_errors_649 rfl (by decide) rfl rfl ?_
                  refine z_goto (tgt := 561) dL_errors_652 (by decide) ?_
                  refine z_lv [(0, .ref a_p0), (1, .int (zi q2)), (2, .int (zi (1 : Int))), (3, .int (zi (v152 + (1 : Int))))] [2, 3, 1, 0] rfl ?_
                  refine z_widen (cs + 8) (ss + 48) (by omega) (by omega) ?_
                  exact ih _ _ _ _ hO200 (by omega) (by omega) hsh
set_option maxRecDepth 100000 in
set_option maxHeartbeats 4000000 in
theorem zc_L_errors (l : Launch) (D : va_G) (J : Nat → ClassId) (F : Nat) {a_p0 : Nat} {A_p0 : zO} {ws_p0 : va_W} (hO_p0 : cOB J a_p0 A_p0 ws_p0) (res : Int) (hsh : sh_L_errors F A_p0 = some res) : ZM l D J yL_errors wsL_errors ({ frames := 26, cells := 227, slots := 1362, locals := 993 } : Room) 227 1362 [.ref a_p0] ws_p0 (fun rv w9 => rv = some (.int (zi res)) ∧ cOB J a_p0 A_p0 w9) := by
  refine z_ofZ (cc := cL_errors) (maxL := 4) (ret := (some .boolean)) 227 1362 (by decide) rfl (Nat.le_of_ble_eq_true rfl) [(0, .ref a_p0)] rfl ?_
  intro p e s m args below meth c A
  unfold sh_L_errors at hsh
  refine z_aload_n (pc' := 1) 0 dL_errors_0 rfl rfl rfl ?_
  obtain ⟨q2, h3, hsh⟩ := zbind hsh
  obtain ⟨fs1, h0_1⟩ := hO_p0.h0
  refine z_callV (pc' := 4) (C := RX8) (As := []) (rest := []) (wr := []) 0 (oc_pointCount_d l D J hO_p0 h3) dL_errors_1 gL_errors_X8_pointCount rfl rfl rfl (by decide +kernel) ⟨Nat.le_of_ble_eq_true rfl, Nat.le_of_ble_eq_true rfl⟩ ⟨Nat.le_of_ble_eq_true rfl, Nat.le_of_ble_eq_true rfl⟩ (z_spl_nil _) h0_1 rfl rfl rfl (Nat.le_of_ble_eq_true rfl) rfl (fun rv w1 hq => ?_)
  obtain ⟨rfl, hr1, hO1⟩ := hq
  refine z_ws w1 rfl ?_
  refine z_istore_n (pc' := 5) [(1, .int (zi q2)), (0, .ref a_p0)] dL_errors_4 rfl (by decide) rfl rfl ?_
  refine z_aload_n (pc' := 6) 1 dL_errors_5 rfl rfl rfl ?_
  refine z_sipush (pc' := 9) dL_errors_6 (by decide) rfl ?_
  obtain ⟨q5, h6, hsh⟩ := zbind hsh
  refine z_callSw (pc' := 12) (As := [.ref a_p0, .int (zi (256 : Int))]) (rest := []) (wr := []) 2 (oc_append_t l D J hO1 (256 : Int) h6) dL_errors_9 gL_errors_L_append rfl rfl rfl (by decide +kernel) ⟨Nat.le_of_ble_eq_true rfl, Nat.le_of_ble_eq_true rfl⟩ ⟨Nat.le_of_ble_eq_true rfl, Nat.le_of_ble_eq_true rfl⟩ (z_spl_nil _) rfl rfl (Nat.le_of_ble_eq_true rfl) rfl (fun E w9 hq => hq.elim) (fun rv w4 hq => ?_)
  obtain ⟨rfl, hr4, hO4⟩ := hq
  refine z_ws w4 rfl ?_
  refine z_widen 2 12 (by decide) (by decide) ?_
  refine z_bipush (pc' := 14) dL_errors_12 (by decide) rfl ?_
  refine z_icmp_ne (pc' := 17) (tgt := 288) dL_errors_14 (by decide) hr4 (by decide) rfl (fun q => ?_) (fun q => ?_)
  · replace hsh := zif_f q hsh
    cases hsh
  · replace hsh := zif_t q hsh
    refine z_aload_n (pc' := 18) 1 dL_errors_17 rfl rfl rfl ?_
    refine z_iconst (pc' := 19) dL_errors_18 rfl ?_
    obtain ⟨q8, h9, hsh⟩ := zbind hsh
    refine z_callSw (pc' := 22) (As := [.ref a_p0, .int (zi (-1 : Int))]) (rest := []) (wr := []) 2 (oc_append_t l D J hO4 (-1 : Int) h9) dL_errors_19 gL_errors_L_append rfl rfl rfl (by decide +kernel) ⟨Nat.le_of_ble_eq_true rfl, Nat.le_of_ble_eq_true rfl⟩ ⟨Nat.le_of_ble_eq_true rfl, Nat.le_of_ble_eq_true rfl⟩ (z_spl_nil _) rfl rfl (Nat.le_of_ble_eq_true rfl) rfl (fun E w9 hq => hq.elim) (fun rv w7 hq => ?_)
    obtain ⟨rfl, hr7, hO7⟩ := hq
    refine z_ws w7 rfl ?_
    refine z_widen 4 24 (by decide) (by decide) ?_
    refine z_bipush (pc' := 24) dL_errors_22 (by decide) rfl ?_
    refine z_icmp_ne (pc' := 27) (tgt := 288) dL_errors_24 (by decide) hr7 (by decide) rfl (fun q => ?_) (fun q => ?_)
    · replace hsh := zif_f q hsh
      cases hsh
    · replace hsh := zif_t q hsh
      refine z_aload_n (pc' := 28) 1 dL_errors_27 rfl rfl rfl ?_
      refine z_iload_n (pc' := 29) 0 dL_errors_28 rfl rfl rfl ?_
      obtain ⟨q11, h12, hsh⟩ := zbind hsh
      refine z_callSw (pc' := 32) (As := [.ref a_p0, .int (zi q2)]) (rest := []) (wr := []) 2 (oc_drawn_t l D J hO7 q2 h12) dL_errors_29 gL_errors_L_drawn rfl rfl rfl (by decide +kernel) ⟨Nat.le_of_ble_eq_true rfl, Nat.le_of_ble_eq_true rfl⟩ ⟨Nat.le_of_ble_eq_true rfl, Nat.le_of_ble_eq_true rfl⟩ (z_spl_nil _) rfl rfl (Nat.le_of_ble_eq_true rfl) rfl (fun E w9 hq => hq.elim) (fun rv w10 hq => ?_)
      obtain ⟨rfl, hr10, hO10⟩ := hq
      refine z_ws w10 rfl ?_
      refine z_widen 5 30 (by decide) (by decide) ?_
      refine z_bipush (pc' := 34) dL_errors_32 (by decide) rfl ?_
      refine z_icmp_ne (pc' := 37) (tgt := 288) dL_errors_34 (by decide) hr10 (by decide) rfl (fun q => ?_) (fun q => ?_)
      · replace hsh := zif_f q hsh
        cases hsh
      · replace hsh := zif_t q hsh
        refine z_aload_n (pc' := 38) 1 dL_errors_37 rfl rfl rfl ?_
        refine z_iconst (pc' := 39) dL_errors_38 rfl ?_
        obtain ⟨q14, h15, hsh⟩ := zbind hsh
        refine z_callSw (pc' := 42) (As := [.ref a_p0, .int (zi (-1 : Int))]) (rest := []) (wr := []) 2 (oc_remaining_t l D J hO10 (-1 : Int) h15) dL_errors_39 gL_errors_L_remaining rfl rfl rfl (by decide +kernel) ⟨Nat.le_of_ble_eq_true rfl, Nat.le_of_ble_eq_true rfl⟩ ⟨Nat.le_of_ble_eq_true rfl, Nat.le_of_ble_eq_true rfl⟩ (z_spl_nil _) rfl rfl (Nat.le_of_ble_eq_true rfl) rfl (fun E w9 hq => hq.elim) (fun rv w13 hq => ?_)
        obtain ⟨rfl, hr13, hO13⟩ := hq
        refine z_ws w13 rfl ?_
        refine z_widen 6 36 (by decide) (by decide) ?_
        refine z_bipush (pc' := 44) dL_errors_42 (by decide) rfl ?_
        refine z_icmp_ne (pc' := 47) (tgt := 288) dL_errors_44 (by decide) hr13 (by decide) rfl (fun q => ?_) (fun q => ?_)
        · replace hsh := zif_f q hsh
          cases hsh
        · replace hsh := zif_t q hsh
          refine z_aload_n (pc' := 48) 1 dL_errors_47 rfl rfl rfl ?_
          refine z_iload_n (pc' := 49) 0 dL_errors_48 rfl rfl rfl ?_
          obtain ⟨q17, h18, hsh⟩ := zbind hsh
          refine z_callSw (pc' := 52) (As := [.ref a_p0, .int (zi q2)]) (rest := []) (wr := []) 2 (oc_slices_t l D J hO13 q2 h18) dL_errors_49 gL_errors_L_slices rfl rfl rfl (by decide +kernel) ⟨Nat.le_of_ble_eq_true rfl, Nat.le_of_ble_eq_true rfl⟩ ⟨Nat.le_of_ble_eq_true rfl, Nat.le_of_ble_eq_true rfl⟩ (z_spl_nil _) rfl rfl (Nat.le_of_ble_eq_true rfl) rfl (fun E w9 hq => hq.elim) (fun rv w16 hq => ?_)
          obtain ⟨rfl, hr16, hO16⟩ := hq
          refine z_ws w16 rfl ?_
          refine z_widen 7 42 (by decide) (by decide) ?_
          refine z_bipush (pc' := 54) dL_errors_52 (by decide) rfl ?_
          refine z_icmp_ne (pc' := 57) (tgt := 288) dL_errors_54 (by decide) hr16 (by decide) rfl (fun q => ?_) (fun q => ?_)
          · replace hsh := zif_f q hsh
            cases hsh
          · replace hsh := zif_t q hsh
            refine z_aload_n (pc' := 58) 1 dL_errors_57 rfl rfl rfl ?_
            refine z_iload_n (pc' := 59) 0 dL_errors_58 rfl rfl rfl ?_
            refine z_iconst (pc' := 60) dL_errors_59 rfl ?_
            obtain ⟨q20, h21, hsh⟩ := zbind hsh
            refine z_callSw (pc' := 63) (As := [.ref a_p0, .int (zi q2), .int (zi (-1 : Int))]) (rest := []) (wr := []) 3 (oc_grade_t l D J hO16 q2 (-1 : Int) h21) dL_errors_60 gL_errors_L_grade rfl rfl rfl (by decide +kernel) ⟨Nat.le_of_ble_eq_true rfl, Nat.le_of_ble_eq_true rfl⟩ ⟨Nat.le_of_ble_eq_true rfl, Nat.le_of_ble_eq_true rfl⟩ (z_spl_nil _) rfl rfl (Nat.le_of_ble_eq_true rfl) rfl (fun E w9 hq => hq.elim) (fun rv w19 hq => ?_)
            obtain ⟨rfl, hr19, hO19⟩ := hq
            refine z_ws w19 rfl ?_
            refine z_widen 9 54 (by decide) (by decide) ?_
            refine z_bipush (pc' := 65) dL_errors_63 (by decide) rfl ?_
            refine z_icmp_ne (pc' := 68) (tgt := 288) dL_errors_65 (by decide) hr19 (by decide) rfl (fun q => ?_) (fun q => ?_)
            · replace hsh := zif_f q hsh
              cases hsh
            · replace hsh := zif_t q hsh
              refine z_aload_n (pc' := 69) 1 dL_errors_68 rfl rfl rfl ?_
              refine z_iconst (pc' := 70) dL_errors_69 rfl ?_
              refine z_iconst (pc' := 71) dL_errors_70 rfl ?_
              obtain ⟨q23, h24, hsh⟩ := zbind hsh
              refine z_callSw (pc' := 74) (As := [.ref a_p0, .int (zi (0 : Int)), .int (zi (-1 : Int))]) (rest := []) (wr := []) 3 (oc_grade_t l D J hO19 (0 : Int) (-1 : Int) h24) dL_errors_71 gL_errors_L_grade rfl rfl rfl (by decide +kernel) ⟨Nat.le_of_ble_eq_true rfl, Nat.le_of_ble_eq_true rfl⟩ ⟨Nat.le_of_ble_eq_true rfl, Nat.le_of_ble_eq_true rfl⟩ (z_spl_nil _) rfl rfl (Nat.le_of_ble_eq_true rfl) rfl (fun E w9 hq => hq.elim) (fun rv w22 hq => ?_)
              obtain ⟨rfl, hr22, hO22⟩ := hq
              refine z_ws w22 rfl ?_
              refine z_widen 11 66 (by decide) (by decide) ?_
              refine z_bipush (pc' := 76) dL_errors_74 (by decide) rfl ?_
              refine z_icmp_ne (pc' := 79) (tgt := 288) dL_errors_76 (by decide) hr22 (by decide) rfl (fun q => ?_) (fun q => ?_)
              · replace hsh := zif_f q hsh
                cases hsh
              · replace hsh := zif_t q hsh
                refine z_aload_n (pc' := 80) 1 dL_errors_79 rfl rfl rfl ?_
                refine z_iconst (pc' := 81) dL_errors_80 rfl ?_
                refine z_bipush (pc' := 83) dL_errors_81 (by decide) rfl ?_
                obtain ⟨q26, h27, hsh⟩ := zbind hsh
                refine z_callSw (pc' := 86) (As := [.ref a_p0, .int (zi (0 : Int)), .int (zi (100 : Int))]) (rest := []) (wr := []) 3 (oc_grade_t l D J hO22 (0 : Int) (100 : Int) h27) dL_errors_83 gL_errors_L_grade rfl rfl rfl (by decide +kernel) ⟨Nat.le_of_ble_eq_true rfl, Nat.le_of_ble_eq_true rfl⟩ ⟨Nat.le_of_ble_eq_true rfl, Nat.le_of_ble_eq_true rfl⟩ (z_spl_nil _) rfl rfl (Nat.le_of_ble_eq_true rfl) rfl (fun E w9 hq => hq.elim) (fun rv w25 hq => ?_)
                obtain ⟨rfl, hr25, hO25⟩ := hq
                refine z_ws w25 rfl ?_
                refine z_widen 13 78 (by decide) (by decide) ?_
                refine z_bipush (pc' := 88) dL_errors_86 (by decide) rfl ?_
                refine z_icmp_ne (pc' := 91) (tgt := 288) dL_errors_88 (by decide) hr25 (by decide) rfl (fun q => ?_) (fun q => ?_)
                · replace hsh := zif_f q hsh
                  cases hsh
                · replace hsh := zif_t q hsh
                  refine z_aload_n (pc' := 92) 1 dL_errors_91 rfl rfl rfl ?_
                  refine z_iload_n (pc' := 93) 0 dL_errors_92 rfl rfl rfl ?_
                  obtain ⟨q29, h30, hsh⟩ := zbind hsh
                  refine z_callSw (pc' := 96) (As := [.ref a_p0, .int (zi q2)]) (rest := []) (wr := []) 2 (oc_hung_t l D J hO25 q2 h30) dL_errors_93 gL_errors_L_hung rfl rfl rfl (by decide +kernel) ⟨Nat.le_of_ble_eq_true rfl, Nat.le_of_ble_eq_true rfl⟩ ⟨Nat.le_of_ble_eq_true rfl, Nat.le_of_ble_eq_true rfl⟩ (z_spl_nil _) rfl rfl (Nat.le_of_ble_eq_true rfl) rfl (fun E w9 hq => hq.elim) (fun rv w28 hq => ?_)
                  obtain ⟨rfl, hr28, hO28⟩ := hq
                  refine z_ws w28 rfl ?_
                  refine z_widen 14 84 (by decide) (by decide) ?_
                  refine z_bipush (pc' := 98) dL_errors_96 (by decide) rfl ?_
                  refine z_icmp_ne (pc' := 101) (tgt := 288) dL_errors_98 (by decide) hr28 (by decide) rfl (fun q => ?_) (fun q => ?_)
                  · replace hsh := zif_f q hsh
                    cases hsh
                  · replace hsh := zif_t q hsh
                    refine z_aload_n (pc' := 102) 1 dL_errors_101 rfl rfl rfl ?_
                    refine z_iload_n (pc' := 103) 0 dL_errors_102 rfl rfl rfl ?_
                    obtain ⟨q32, h33, hsh⟩ := zbind hsh
                    refine z_callSw (pc' := 106) (As := [.ref a_p0, .int (zi q2)]) (rest := []) (wr := []) 2 (oc_draw_t l D J hO28 q2 h33) dL_errors_103 gL_errors_L_draw rfl rfl rfl (by decide +kernel) ⟨Nat.le_of_ble_eq_true rfl, Nat.le_of_ble_eq_true rfl⟩ ⟨Nat.le_of_ble_eq_true rfl, Nat.le_of_ble_eq_true rfl⟩ (z_spl_nil _) rfl rfl (Nat.le_of_ble_eq_true rfl) rfl (fun E w9 hq => hq.elim) (fun rv w31 hq => ?_)
                    obtain ⟨rfl, hr31, hO31⟩ := hq
                    refine z_ws w31 rfl ?_
                    refine z_widen 16 96 (by decide) (by decide) ?_
                    refine z_bipush (pc' := 108) dL_errors_106 (by decide) rfl ?_
                    refine z_icmp_ne (pc' := 111) (tgt := 288) dL_errors_108 (by decide) hr31 (by decide) rfl (fun q => ?_) (fun q => ?_)
                    · replace hsh := zif_f q hsh
                      cases hsh
                    · replace hsh := zif_t q hsh
                      refine z_aload_n (pc' := 112) 1 dL_errors_111 rfl rfl rfl ?_
                      refine z_iconst (pc' := 113) dL_errors_112 rfl ?_
                      obtain ⟨q35, h36, hsh⟩ := zbind hsh
                      refine z_callSw (pc' := 116) (As := [.ref a_p0, .int (zi (-1 : Int))]) (rest := []) (wr := []) 2 (oc_draw_t l D J hO31 (-1 : Int) h36) dL_errors_113 gL_errors_L_draw rfl rfl rfl (by decide +kernel) ⟨Nat.le_of_ble_eq_true rfl, Nat.le_of_ble_eq_true rfl⟩ ⟨Nat.le_of_ble_eq_true rfl, Nat.le_of_ble_eq_true rfl⟩ (z_spl_nil _) rfl rfl (Nat.le_of_ble_eq_true rfl) rfl (fun E w9 hq => hq.elim) (fun rv w34 hq => ?_)
                      obtain ⟨rfl, hr34, hO34⟩ := hq
                      refine z_ws w34 rfl ?_
                      refine z_widen 18 108 (by decide) (by decide) ?_
                      refine z_bipush (pc' := 118) dL_errors_116 (by decide) rfl ?_
                      refine z_icmp_ne (pc' := 121) (tgt := 288) dL_errors_118 (by decide) hr34 (by decide) rfl (fun q => ?_) (fun q => ?_)
                      · replace hsh := zif_f q hsh
                        cases hsh
                      · replace hsh := zif_t q hsh
                        refine z_aload_n (pc' := 122) 1 dL_errors_121 rfl rfl rfl ?_
                        refine z_iconst (pc' := 123) dL_errors_122 rfl ?_
                        obtain ⟨q38, h39, hsh⟩ := zbind hsh
                        refine z_callSw (pc' := 126) (As := [.ref a_p0, .int (zi (0 : Int))]) (rest := []) (wr := []) 2 (oc_byOrder_t l D J hO34 (0 : Int) h39) dL_errors_123 gL_errors_L_byOrder rfl rfl rfl (by decide +kernel) ⟨Nat.le_of_ble_eq_true rfl, Nat.le_of_ble_eq_true rfl⟩ ⟨Nat.le_of_ble_eq_true rfl, Nat.le_of_ble_eq_true rfl⟩ (z_spl_nil _) rfl rfl (Nat.le_of_ble_eq_true rfl) rfl (fun E w9 hq => hq.elim) (fun rv w37 hq => ?_)
                        obtain ⟨rfl, hr37, hO37⟩ := hq
                        refine z_ws w37 rfl ?_
                        refine z_widen 19 114 (by decide) (by decide) ?_
                        refine z_bipush (pc' := 128) dL_errors_126 (by decide) rfl ?_
                        refine z_icmp_ne (pc' := 131) (tgt := 288) dL_errors_128 (by decide) hr37 (by decide) rfl (fun q => ?_) (fun q => ?_)
                        · replace hsh := zif_f q hsh
                          cases hsh
                        · replace hsh := zif_t q hsh
                          refine z_aload_n (pc' := 132) 1 dL_errors_131 rfl rfl rfl ?_
                          refine z_bipush (pc' := 134) dL_errors_132 (by decide) rfl ?_
                          obtain ⟨q41, h42, hsh⟩ := zbind hsh
                          refine z_callSw (pc' := 137) (As := [.ref a_p0, .int (zi (100 : Int))]) (rest := []) (wr := []) 2 (oc_byOrder_t l D J hO37 (100 : Int) h42) dL_errors_134 gL_errors_L_byOrder rfl rfl rfl (by decide +kernel) ⟨Nat.le_of_ble_eq_true rfl, Nat.le_of_ble_eq_true rfl⟩ ⟨Nat.le_of_ble_eq_true rfl, Nat.le_of_ble_eq_true rfl⟩ (z_spl_nil _) rfl rfl (Nat.le_of_ble_eq_true rfl) rfl (fun E w9 hq => hq.elim) (fun rv w40 hq => ?_)
                          obtain ⟨rfl, hr40, hO40⟩ := hq
                          refine z_ws w40 rfl ?_
                          refine z_widen 20 120 (by decide) (by decide) ?_
                          refine z_bipush (pc' := 139) dL_errors_137 (by decide) rfl ?_
                          refine z_icmp_ne (pc' := 142) (tgt := 288) dL_errors_139 (by decide) hr40 (by decide) rfl (fun q => ?_) (fun q => ?_)
                          · replace hsh := zif_f q hsh
                            cases hsh
                          · replace hsh := zif_t q hsh
                            refine z_aload_n (pc' := 143) 1 dL_errors_142 rfl rfl rfl ?_
                            refine z_iload_n (pc' := 144) 0 dL_errors_143 rfl rfl rfl ?_
                            obtain ⟨q44, h45, hsh⟩ := zbind hsh
                            refine z_callSw (pc' := 147) (As := [.ref a_p0, .int (zi q2)]) (rest := []) (wr := []) 2 (oc_hang_t l D J hO40 q2 h45) dL_errors_144 gL_errors_L_hang rfl rfl rfl (by decide +kernel) ⟨Nat.le_of_ble_eq_true rfl, Nat.le_of_ble_eq_true rfl⟩ ⟨Nat.le_of_ble_eq_true rfl, Nat.le_of_ble_eq_true rfl⟩ (z_spl_nil _) rfl rfl (Nat.le_of_ble_eq_true rfl) rfl (fun E w9 hq => hq.elim) (fun rv w43 hq => ?_)
                            obtain ⟨rfl, hr43, hO43⟩ := hq
                            refine z_ws w43 rfl ?_
                            refine z_widen 22 132 (by decide) (by decide) ?_
                            refine z_bipush (pc' := 149) dL_errors_147 (by decide) rfl ?_
                            refine z_icmp_ne (pc' := 152) (tgt := 288) dL_errors_149 (by decide) hr43 (by decide) rfl (fun q => ?_) (fun q => ?_)
                            · replace hsh := zif_f q hsh
                              cases hsh
                            · replace hsh := zif_t q hsh
                              refine z_aload_n (pc' := 153) 1 dL_errors_152 rfl rfl rfl ?_
                              refine z_iload_n (pc' := 154) 0 dL_errors_153 rfl rfl rfl ?_
                              obtain ⟨q47, h48, hsh⟩ := zbind hsh
                              refine z_callSw (pc' := 157) (As := [.ref a_p0, .int (zi q2)]) (rest := []) (wr := []) 2 (oc_release_t l D J hO43 q2 h48) dL_errors_154 gL_errors_L_release rfl rfl rfl (by decide +kernel) ⟨Nat.le_of_ble_eq_true rfl, Nat.le_of_ble_eq_true rfl⟩ ⟨Nat.le_of_ble_eq_true rfl, Nat.le_of_ble_eq_true rfl⟩ (z_spl_nil _) rfl rfl (Nat.le_of_ble_eq_true rfl) rfl (fun E w9 hq => hq.elim) (fun rv w46 hq => ?_)
                              obtain ⟨rfl, hr46, hO46⟩ := hq
                              refine z_ws w46 rfl ?_
                              refine z_widen 24 144 (by decide) (by decide) ?_
                              refine z_bipush (pc' := 159) dL_errors_157 (by decide) rfl ?_
                              refine z_icmp_ne (pc' := 162) (tgt := 288) dL_errors_159 (by decide) hr46 (by decide) rfl (fun q => ?_) (fun q => ?_)
                              · replace hsh := zif_f q hsh
                                cases hsh
                              · replace hsh := zif_t q hsh
                                refine z_aload_n (pc' := 163) 1 dL_errors_162 rfl rfl rfl ?_
                                refine z_iload_n (pc' := 164) 0 dL_errors_163 rfl rfl rfl ?_
                                refine z_iconst (pc' := 165) dL_errors_164 rfl ?_
                                refine z_iconst (pc' := 166) dL_errors_165 rfl ?_
                                obtain ⟨q50, h51, hsh⟩ := zbind hsh
                                refine z_callSw (pc' := 169) (As := [.ref a_p0, .int (zi q2), .int (zi (0 : Int)), .int (zi (0 : Int))]) (rest := []) (wr := []) 4 (oc_add_t l D J hO46 q2 (0 : Int) (0 : Int) h51) dL_errors_166 gL_errors_L_add rfl rfl rfl (by decide +kernel) ⟨Nat.le_of_ble_eq_true rfl, Nat.le_of_ble_eq_true rfl⟩ ⟨Nat.le_of_ble_eq_true rfl, Nat.le_of_ble_eq_true rfl⟩ (z_spl_nil _) rfl rfl (Nat.le_of_ble_eq_true rfl) rfl (fun E w9 hq => hq.elim) (fun rv w49 hq => ?_)
                                obtain ⟨rfl, hr49, hO49⟩ := hq
                                refine z_ws w49 rfl ?_
                                refine z_widen 28 168 (by decide) (by decide) ?_
                                refine z_bipush (pc' := 171) dL_errors_169 (by decide) rfl ?_
                                refine z_icmp_ne (pc' := 174) (tgt := 288) dL_errors_171 (by decide) hr49 (by decide) rfl (fun q => ?_) (fun q => ?_)
                                · replace hsh := zif_f q hsh
                                  cases hsh
                                · replace hsh := zif_t q hsh
                                  refine z_aload_n (pc' := 175) 1 dL_errors_174 rfl rfl rfl ?_
                                  refine z_iconst (pc' := 176) dL_errors_175 rfl ?_
                                  refine z_iconst (pc' := 177) dL_errors_176 rfl ?_
                                  refine z_iconst (pc' := 178) dL_errors_177 rfl ?_
                                  obtain ⟨q53, h54, hsh⟩ := zbind hsh
                                  refine z_callSw (pc' := 181) (As := [.ref a_p0, .int (zi (0 : Int)), .int (zi (0 : Int)), .int (zi (0 : Int))]) (rest := []) (wr := []) 4 (oc_add_t l D J hO49 (0 : Int) (0 : Int) (0 : Int) h54) dL_errors_178 gL_errors_L_add rfl rfl rfl (by decide +kernel) ⟨Nat.le_of_ble_eq_true rfl, Nat.le_of_ble_eq_true rfl⟩ ⟨Nat.le_of_ble_eq_true rfl, Nat.le_of_ble_eq_true rfl⟩ (z_spl_nil _) rfl rfl (Nat.le_of_ble_eq_true rfl) rfl (fun E w9 hq => hq.elim) (fun rv w52 hq => ?_)
                                  obtain ⟨rfl, hr52, hO52⟩ := hq
                                  refine z_ws w52 rfl ?_
                                  refine z_widen 32 192 (by decide) (by decide) ?_
                                  refine z_bipush (pc' := 183) dL_errors_181 (by decide) rfl ?_
                                  refine z_icmp_ne (pc' := 186) (tgt := 288) dL_errors_183 (by decide) hr52 (by decide) rfl (fun q => ?_) (fun q => ?_)
                                  · replace hsh := zif_f q hsh
                                    cases hsh
                                  · replace hsh := zif_t q hsh
                                    refine z_aload_n (pc' := 187) 1 dL_errors_186 rfl rfl rfl ?_
                                    refine z_iconst (pc' := 188) dL_errors_187 rfl ?_
                                    refine z_bipush (pc' := 190) dL_errors_188 (by decide) rfl ?_
                                    refine z_iconst (pc' := 191) dL_errors_190 rfl ?_
                                    obtain ⟨q56, h57, hsh⟩ := zbind hsh
                                    refine z_callSw (pc' := 194) (As := [.ref a_p0, .int (zi (0 : Int)), .int (zi (10 : Int)), .int (zi (0 : Int))]) (rest := []) (wr := []) 4 (oc_add_t l D J hO52 (0 : Int) (10 : Int) (0 : Int) h57) dL_errors_191 gL_errors_L_add rfl rfl rfl (by decide +kernel) ⟨Nat.le_of_ble_eq_true rfl, Nat.le_of_ble_eq_true rfl⟩ ⟨Nat.le_of_ble_eq_true rfl, Nat.le_of_ble_eq_true rfl⟩ (z_spl_nil _) rfl rfl (Nat.le_of_ble_eq_true rfl) rfl (fun E w9 hq => hq.elim) (fun rv w55 hq => ?_)
                                    obtain ⟨rfl, hr55, hO55⟩ := hq
                                    refine z_ws w55 rfl ?_
                                    refine z_widen 36 216 (by decide) (by decide) ?_
                                    refine z_bipush (pc' := 196) dL_errors_194 (by decide) rfl ?_
                                    refine z_icmp_ne (pc' := 199) (tgt := 288) dL_errors_196 (by decide) hr55 (by decide) rfl (fun q => ?_) (fun q => ?_)
                                    · replace hsh := zif_f q hsh
                                      cases hsh
                                    · replace hsh := zif_t q hsh
                                      refine z_aload_n (pc' := 200) 1 dL_errors_199 rfl rfl rfl ?_
                                      refine z_iconst (pc' := 201) dL_errors_200 rfl ?_
                                      refine z_iconst (pc' := 202) dL_errors_201 rfl ?_
                                      refine z_bipush (pc' := 204) dL_errors_202 (by decide) rfl ?_
                                      obtain ⟨q59, h60, hsh⟩ := zbind hsh
                                      refine z_callSw (pc' := 207) (As := [.ref a_p0, .int (zi (0 : Int)), .int (zi (1 : Int)), .int (zi (10 : Int))]) (rest := []) (wr := []) 4 (oc_add_t l D J hO55 (0 : Int) (1 : Int) (10 : Int) h60) dL_errors_204 gL_errors_L_add rfl rfl rfl (by decide +kernel) ⟨Nat.le_of_ble_eq_true rfl, Nat.le_of_ble_eq_true rfl⟩ ⟨Nat.le_of_ble_eq_true rfl, Nat.le_of_ble_eq_true rfl⟩ (z_spl_nil _) rfl rfl (Nat.le_of_ble_eq_true rfl) rfl (fun E w9 hq => hq.elim) (fun rv w58 hq => ?_)
                                      obtain ⟨rfl, hr58, hO58⟩ := hq
                                      refine z_ws w58 rfl ?_
                                      refine z_widen 40 240 (by decide) (by decide) ?_
                                      refine z_bipush (pc' := 209) dL_errors_207 (by decide) rfl ?_
                                      refine z_icmp_ne (pc' := 212) (tgt := 288) dL_errors_209 (by decide) hr58 (by decide) rfl (fun q => ?_) (fun q => ?_)
                                      · replace hsh := zif_f q hsh
                                        cases hsh
                                      · replace hsh := zif_t q hsh
                                        refine z_aload_n (pc' := 213) 1 dL_errors_212 rfl rfl rfl ?_
                                        refine z_iconst (pc' := 214) dL_errors_213 rfl ?_
                                        obtain ⟨q62, h63, hsh⟩ := zbind hsh
                                        refine z_callSw (pc' := 217) (As := [.ref a_p0, .int (zi (0 : Int))]) (rest := []) (wr := []) 2 (oc_setBound_t l D J hO58 (0 : Int) h63) dL_errors_214 gL_errors_L_setBound rfl rfl rfl (by decide +kernel) ⟨Nat.le_of_ble_eq_true rfl, Nat.le_of_ble_eq_true rfl⟩ ⟨Nat.le_of_ble_eq_true rfl, Nat.le_of_ble_eq_true rfl⟩ (z_spl_nil _) rfl rfl (Nat.le_of_ble_eq_true rfl) rfl (fun E w9 hq => hq.elim) (fun rv w61 hq => ?_)
                                        obtain ⟨rfl, hr61, hO61⟩ := hq
                                        refine z_ws w61 rfl ?_
                                        refine z_widen 42 252 (by decide) (by decide) ?_
                                        refine z_bipush (pc' := 219) dL_errors_217 (by decide) rfl ?_
                                        refine z_icmp_ne (pc' := 222) (tgt := 288) dL_errors_219 (by decide) hr61 (by decide) rfl (fun q => ?_) (fun q => ?_)
                                        · replace hsh := zif_f q hsh
                                          cases hsh
                                        · replace hsh := zif_t q hsh
                                          refine z_aload_n (pc' := 223) 1 dL_errors_222 rfl rfl rfl ?_
                                          refine z_bipush (pc' := 225) dL_errors_223 (by decide) rfl ?_
                                          obtain ⟨q65, h66, hsh⟩ := zbind hsh
                                          refine z_callSw (pc' := 228) (As := [.ref a_p0, .int (zi (10 : Int))]) (rest := []) (wr := []) 2 (oc_setBound_t l D J hO61 (10 : Int) h66) dL_errors_225 gL_errors_L_setBound rfl rfl rfl (by decide +kernel) ⟨Nat.le_of_ble_eq_true rfl, Nat.le_of_ble_eq_true rfl⟩ ⟨Nat.le_of_ble_eq_true rfl, Nat.le_of_ble_eq_true rfl⟩ (z_spl_nil _) rfl rfl (Nat.le_of_ble_eq_true rfl) rfl (fun E w9 hq => hq.elim) (fun rv w64 hq => ?_)
                                          obtain ⟨rfl, hr64, hO64⟩ := hq
                                          refine z_ws w64 rfl ?_
                                          refine z_widen 44 264 (by decide) (by decide) ?_
                                          refine z_bipush (pc' := 230) dL_errors_228 (by decide) rfl ?_
                                          refine z_icmp_ne (pc' := 233) (tgt := 288) dL_errors_230 (by decide) hr64 (by decide) rfl (fun q => ?_) (fun q => ?_)
                                          · replace hsh := zif_f q hsh
                                            cases hsh
                                          · replace hsh := zif_t q hsh
                                            refine z_aload_n (pc' := 234) 1 dL_errors_233 rfl rfl rfl ?_
                                            refine z_iload_n (pc' := 235) 0 dL_errors_234 rfl rfl rfl ?_
                                            obtain ⟨q68, h69, hsh⟩ := zbind hsh
                                            refine z_callSw (pc' := 238) (As := [.ref a_p0, .int (zi q2)]) (rest := []) (wr := []) 2 (oc_ready_t l D J hO64 q2 h69) dL_errors_235 gL_errors_L_ready rfl rfl rfl (by decide +kernel) ⟨Nat.le_of_ble_eq_true rfl, Nat.le_of_ble_eq_true rfl⟩ ⟨Nat.le_of_ble_eq_true rfl, Nat.le_of_ble_eq_true rfl⟩ (z_spl_nil _) rfl rfl (Nat.le_of_ble_eq_true rfl) rfl (fun E w9 hq => hq.elim) (fun rv w67 hq => ?_)
                                            obtain ⟨rfl, hr67, hO67⟩ := hq
                                            refine z_ws w67 rfl ?_
                                            refine z_widen 45 270 (by decide) (by decide) ?_
                                            refine z_bipush (pc' := 240) dL_errors_238 (by decide) rfl ?_
                                            refine z_icmp_ne (pc' := 243) (tgt := 288) dL_errors_240 (by decide) hr67 (by decide) rfl (fun q => ?_) (fun q => ?_)
                                            · replace hsh := zif_f q hsh
                                              cases hsh
                                            · replace hsh := zif_t q hsh
                                              refine z_aload_n (pc' := 244) 1 dL_errors_243 rfl rfl rfl ?_
                                              refine z_iload_n (pc' := 245) 0 dL_errors_244 rfl rfl rfl ?_
                                              obtain ⟨q71, h72, hsh⟩ := zbind hsh
                                              refine z_callSw (pc' := 248) (As := [.ref a_p0, .int (zi q2)]) (rest := []) (wr := []) 2 (oc_blockers_t l D J hO67 q2 h72) dL_errors_245 gL_errors_L_blockers rfl rfl rfl (by decide +kernel) ⟨Nat.le_of_ble_eq_true rfl, Nat.le_of_ble_eq_true rfl⟩ ⟨Nat.le_of_ble_eq_true rfl, Nat.le_of_ble_eq_true rfl⟩ (z_spl_nil _) rfl rfl (Nat.le_of_ble_eq_true rfl) rfl (fun E w9 hq => hq.elim) (fun rv w70 hq => ?_)
                                              obtain ⟨rfl, hr70, hO70⟩ := hq
                                              refine z_ws w70 rfl ?_
                                              refine z_widen 46 276 (by decide) (by decide) ?_
                                              refine z_bipush (pc' := 250) dL_errors_248 (by decide) rfl ?_
                                              refine z_icmp_ne (pc' := 253) (tgt := 288) dL_errors_250 (by decide) hr70 (by decide) rfl (fun q => ?_) (fun q => ?_)
                                              · replace hsh := zif_f q hsh
                                                cases hsh
                                              · replace hsh := zif_t q hsh
                                                refine z_aload_n (pc' := 254) 1 dL_errors_253 rfl rfl rfl ?_
                                                refine z_iconst (pc' := 255) dL_errors_254 rfl ?_
                                                obtain ⟨q74, h75, hsh⟩ := zbind hsh
                                                refine z_callSw (pc' := 258) (As := [.ref a_p0, .int (zi (-1 : Int))]) (rest := []) (wr := []) 2 (oc_slack_t l D J hO70 (-1 : Int) h75) dL_errors_255 gL_errors_L_slack rfl rfl rfl (by decide +kernel) ⟨Nat.le_of_ble_eq_true rfl, Nat.le_of_ble_eq_true rfl⟩ ⟨Nat.le_of_ble_eq_true rfl, Nat.le_of_ble_eq_true rfl⟩ (z_spl_nil _) rfl rfl (Nat.le_of_ble_eq_true rfl) rfl (fun E w9 hq => hq.elim) (fun rv w73 hq => ?_)
                                                obtain ⟨rfl, hr73, hO73⟩ := hq
                                                refine z_ws w73 rfl ?_
                                                refine z_widen 47 282 (by decide) (by decide) ?_
                                                refine z_bipush (pc' := 260) dL_errors_258 (by decide) rfl ?_
                                                refine z_icmp_ne (pc' := 263) (tgt := 288) dL_errors_260 (by decide) hr73 (by decide) rfl (fun q => ?_) (fun q => ?_)
                                                · replace hsh := zif_f q hsh
                                                  cases hsh
                                                · replace hsh := zif_t q hsh
                                                  refine z_aload_n (pc' := 264) 1 dL_errors_263 rfl rfl rfl ?_
                                                  refine z_iconst (pc' := 265) dL_errors_264 rfl ?_
                                                  obtain ⟨q77, h78, hsh⟩ := zbind hsh
                                                  refine z_callSw (pc' := 268) (As := [.ref a_p0, .int (zi (-1 : Int))]) (rest := []) (wr := []) 2 (oc_ahead_t l D J hO73 (-1 : Int) h78) dL_errors_265 gL_errors_L_ahead rfl rfl rfl (by decide +kernel) ⟨Nat.le_of_ble_eq_true rfl, Nat.le_of_ble_eq_true rfl⟩ ⟨Nat.le_of_ble_eq_true rfl, Nat.le_of_ble_eq_true rfl⟩ (z_spl_nil _) rfl rfl (Nat.le_of_ble_eq_true rfl) rfl (fun E w9 hq => hq.elim) (fun rv w76 hq => ?_)
                                                  obtain ⟨rfl, hr76, hO76⟩ := hq
                                                  refine z_ws w76 rfl ?_
                                                  refine z_widen 48 288 (by decide) (by decide) ?_
                                                  refine z_bipush (pc' := 270) dL_errors_268 (by decide) rfl ?_
                                                  refine z_icmp_ne (pc' := 273) (tgt := 288) dL_errors_270 (by decide) hr76 (by decide) rfl (fun q => ?_) (fun q => ?_)
                                                  · replace hsh := zif_f q hsh
                                                    cases hsh
                                                  · replace hsh := zif_t q hsh
                                                    refine z_aload_n (pc' := 274) 1 dL_errors_273 rfl rfl rfl ?_
                                                    refine z_bipush (pc' := 276) dL_errors_274 (by decide) rfl ?_
                                                    obtain ⟨q80, h81, hsh⟩ := zbind hsh
                                                    refine z_callSw (pc' := 279) (As := [.ref a_p0, .int (zi (100 : Int))]) (rest := []) (wr := []) 2 (oc_ahead_t l D J hO76 (100 : Int) h81) dL_errors_276 gL_errors_L_ahead rfl rfl rfl (by decide +kernel) ⟨Nat.le_of_ble_eq_true rfl, Nat.le_of_ble_eq_true rfl⟩ ⟨Nat.le_of_ble_eq_true rfl, Nat.le_of_ble_eq_true rfl⟩ (z_spl_nil _) rfl rfl (Nat.le_of_ble_eq_true rfl) rfl (fun E w9 hq => hq.elim) (fun rv w79 hq => ?_)
                                                    obtain ⟨rfl, hr79, hO79⟩ := hq
                                                    refine z_ws w79 rfl ?_
                                                    refine z_widen 49 294 (by decide) (by decide) ?_
                                                    refine z_bipush (pc' := 281) dL_errors_279 (by decide) rfl ?_
                                                    refine z_icmp_ne (pc' := 284) (tgt := 288) dL_errors_281 (by decide) hr79 (by decide) rfl (fun q => ?_) (fun q => ?_)
                                                    · replace hsh := zif_f q hsh
                                                      cases hsh
                                                    · replace hsh := zif_t q hsh
                                                      refine z_iconst (pc' := 285) dL_errors_284 rfl ?_
                                                      refine z_goto (tgt := 289) dL_errors_285 (by decide) ?_
                                                      refine z_istore_n (pc' := 290) [(2, .int (zi (1 : Int))), (1, .int (zi q2)), (0, .ref a_p0)] dL_errors_289 rfl (by decide) rfl rfl ?_
                                                      refine z_iload_n (pc' := 291) 0 dL_errors_290 rfl rfl rfl ?_
                                                      refine z_if_eq (pc' := 294) (tgt := 557) dL_errors_291 (by decide) (by decide) rfl (fun q => absurd q (by decide)) (fun q => ?_)
                                                      refine z_aload_n (pc' := 295) 2 dL_errors_294 rfl rfl rfl ?_
                                                      refine z_iload_n (pc' := 296) 1 dL_errors_295 rfl rfl rfl ?_
                                                      refine z_iconst (pc' := 297) dL_errors_296 rfl ?_
                                                      obtain ⟨q83, h84, hsh⟩ := zbind hsh
                                                      refine z_callSw (pc' := 300) (As := [.ref a_p0, .int (zi q2), .int (zi (0 : Int))]) (rest := []) (wr := []) 3 (oc_waste_t l D J hO79 q2 (0 : Int) h84) dL_errors_297 gL_errors_L_waste rfl rfl rfl (by decide +kernel) ⟨Nat.le_of_ble_eq_true rfl, Nat.le_of_ble_eq_true rfl⟩ ⟨Nat.le_of_ble_eq_true rfl, Nat.le_of_ble_eq_true rfl⟩ (z_spl_nil _) rfl rfl (Nat.le_of_ble_eq_true rfl) rfl (fun E w9 hq => hq.elim) (fun rv w82 hq => ?_)
                                                      obtain ⟨rfl, hr82, hO82⟩ := hq
                                                      refine z_ws w82 rfl ?_
                                                      refine z_widen 51 306 (by decide) (by decide) ?_
                                                      refine z_bipush (pc' := 302) dL_errors_300 (by decide) rfl ?_
                                                      refine z_icmp_ne (pc' := 305) (tgt := 557) dL_errors_302 (by decide) hr82 (by decide) rfl (fun q => ?_) (fun q => ?_)
                                                      · replace hsh := zif_f q hsh
                                                        cases hsh
                                                      · replace hsh := zif_t q hsh
                                                        refine z_aload_n (pc' := 306) 2 dL_errors_305 rfl rfl rfl ?_
                                                        refine z_iconst (pc' := 307) dL_errors_306 rfl ?_
                                                        refine z_iconst (pc' := 308) dL_errors_307 rfl ?_
                                                        obtain ⟨q86, h87, hsh⟩ := zbind hsh
                                                        refine z_callSw (pc' := 311) (As := [.ref a_p0, .int (zi (0 : Int)), .int (zi (0 : Int))]) (rest := []) (wr := []) 3 (oc_waste_t l D J hO82 (0 : Int) (0 : Int) h87) dL_errors_308 gL_errors_L_waste rfl rfl rfl (by decide +kernel) ⟨Nat.le_of_ble_eq_true rfl, Nat.le_of_ble_eq_true rfl⟩ ⟨Nat.le_of_ble_eq_true rfl, Nat.le_of_ble_eq_true rfl⟩ (z_spl_nil _) rfl rfl (Nat.le_of_ble_eq_true rfl) rfl (fun E w9 hq => hq.elim) (fun rv w85 hq => ?_)
                                                        obtain ⟨rfl, hr85, hO85⟩ := hq
                                                        refine z_ws w85 rfl ?_
                                                        refine z_widen 53 318 (by decide) (by decide) ?_
                                                        refine z_bipush (pc' := 313) dL_errors_311 (by decide) rfl ?_
                                                        refine z_icmp_ne (pc' := 316) (tgt := 557) dL_errors_313 (by decide) hr85 (by decide) rfl (fun q => ?_) (fun q => ?_)
                                                        · replace hsh := zif_f q hsh
                                                          cases hsh
                                                        · replace hsh := zif_t q hsh
                                                          refine z_aload_n (pc' := 317) 2 dL_errors_316 rfl rfl rfl ?_
                                                          refine z_iconst (pc' := 318) dL_errors_317 rfl ?_
                                                          refine z_bipush (pc' := 320) dL_errors_318 (by decide) rfl ?_
                                                          obtain ⟨q89, h90, hsh⟩ := zbind hsh
                                                          refine z_callSw (pc' := 323) (As := [.ref a_p0, .int (zi (0 : Int)), .int (zi (10 : Int))]) (rest := []) (wr := []) 3 (oc_waste_t l D J hO85 (0 : Int) (10 : Int) h90) dL_errors_320 gL_errors_L_waste rfl rfl rfl (by decide +kernel) ⟨Nat.le_of_ble_eq_true rfl, Nat.le_of_ble_eq_true rfl⟩ ⟨Nat.le_of_ble_eq_true rfl, Nat.le_of_ble_eq_true rfl⟩ (z_spl_nil _) rfl rfl (Nat.le_of_ble_eq_true rfl) rfl (fun E w9 hq => hq.elim) (fun rv w88 hq => ?_)
                                                          obtain ⟨rfl, hr88, hO88⟩ := hq
                                                          refine z_ws w88 rfl ?_
                                                          refine z_widen 55 330 (by decide) (by decide) ?_
                                                          refine z_bipush (pc' := 325) dL_errors_323 (by decide) rfl ?_
                                                          refine z_icmp_ne (pc' := 328) (tgt := 557) dL_errors_325 (by decide) hr88 (by decide) rfl (fun q => ?_) (fun q => ?_)
                                                          · replace hsh := zif_f q hsh
                                                            cases hsh
                                                          · replace hsh := zif_t q hsh
                                                            refine z_aload_n (pc' := 329) 2 dL_errors_328 rfl rfl rfl ?_
                                                            refine z_iload_n (pc' := 330) 1 dL_errors_329 rfl rfl rfl ?_
                                                            refine z_iconst (pc' := 331) dL_errors_330 rfl ?_
                                                            obtain ⟨q92, h93, hsh⟩ := zbind hsh
                                                            refine z_callSw (pc' := 334) (As := [.ref a_p0, .int (zi q2), .int (zi (0 : Int))]) (rest := []) (wr := []) 3 (oc_bucketsFor_t l D J hO88 q2 (0 : Int) h93) dL_errors_331 gL_errors_L_bucketsFor rfl rfl rfl (by decide +kernel) ⟨Nat.le_of_ble_eq_true rfl, Nat.le_of_ble_eq_true rfl⟩ ⟨Nat.le_of_ble_eq_true rfl, Nat.le_of_ble_eq_true rfl⟩ (z_spl_nil _) rfl rfl (Nat.le_of_ble_eq_true rfl) rfl (fun E w9 hq => hq.elim) (fun rv w91 hq => ?_)
                                                            obtain ⟨rfl, hr91, hO91⟩ := hq
                                                            refine z_ws w91 rfl ?_
                                                            refine z_widen 57 342 (by decide) (by decide) ?_
                                                            refine z_bipush (pc' := 336) dL_errors_334 (by decide) rfl ?_
                                                            refine z_icmp_ne (pc' := 339) (tgt := 557) dL_errors_336 (by decide) hr91 (by decide) rfl (fun q => ?_) (fun q => ?_)
                                                            · replace hsh := zif_f q hsh
                                                              cases hsh
                                                            · replace hsh := zif_t q hsh
                                                              refine z_aload_n (pc' := 340) 2 dL_errors_339 rfl rfl rfl ?_
                                                              refine z_iconst (pc' := 341) dL_errors_340 rfl ?_
                                                              refine z_iconst (pc' := 342) dL_errors_341 rfl ?_
                                                              obtain ⟨q95, h96, hsh⟩ := zbind hsh
                                                              refine z_callSw (pc' := 345) (As := [.ref a_p0, .int (zi (0 : Int)), .int (zi (0 : Int))]) (rest := []) (wr := []) 3 (oc_bucketsFor_t l D J hO91 (0 : Int) (0 : Int) h96) dL_errors_342 gL_errors_L_bucketsFor rfl rfl rfl (by decide +kernel) ⟨Nat.le_of_ble_eq_true rfl, Nat.le_of_ble_eq_true rfl⟩ ⟨Nat.le_of_ble_eq_true rfl, Nat.le_of_ble_eq_true rfl⟩ (z_spl_nil _) rfl rfl (Nat.le_of_ble_eq_true rfl) rfl (fun E w9 hq => hq.elim) (fun rv w94 hq => ?_)
                                                              obtain ⟨rfl, hr94, hO94⟩ := hq
                                                              refine z_ws w94 rfl ?_
                                                              refine z_widen 59 354 (by decide) (by decide) ?_
                                                              refine z_bipush (pc' := 347) dL_errors_345 (by decide) rfl ?_
                                                              refine z_icmp_ne (pc' := 350) (tgt := 557) dL_errors_347 (by decide) hr94 (by decide) rfl (fun q => ?_) (fun q => ?_)
                                                              · replace hsh := zif_f q hsh
                                                                cases hsh
                                                              · replace hsh := zif_t q hsh
                                                                refine z_aload_n (pc' := 351) 2 dL_errors_350 rfl rfl rfl ?_
                                                                refine z_iconst (pc' := 352) dL_errors_351 rfl ?_
                                                                refine z_bipush (pc' := 354) dL_errors_352 (by decide) rfl ?_
                                                                obtain ⟨q98, h99, hsh⟩ := zbind hsh
                                                                refine z_callSw (pc' := 357) (As := [.ref a_p0, .int (zi (0 : Int)), .int (zi (55 : Int))]) (rest := []) (wr := []) 3 (oc_bucketsFor_t l D J hO94 (0 : Int) (55 : Int) h99) dL_errors_354 gL_errors_L_bucketsFor rfl rfl rfl (by decide +kernel) ⟨Nat.le_of_ble_eq_true rfl, Nat.le_of_ble_eq_true rfl⟩ ⟨Nat.le_of_ble_eq_true rfl, Nat.le_of_ble_eq_true rfl⟩ (z_spl_nil _) rfl rfl (Nat.le_of_ble_eq_true rfl) rfl (fun E w9 hq => hq.elim) (fun rv w97 hq => ?_)
                                                                obtain ⟨rfl, hr97, hO97⟩ := hq
                                                                refine z_ws w97 rfl ?_
                                                                refine z_widen 61 366 (by decide) (by decide) ?_
                                                                refine z_bipush (pc' := 359) dL_errors_357 (by decide) rfl ?_
                                                                refine z_icmp_ne (pc' := 362) (tgt := 557) dL_errors_359 (by decide) hr97 (by decide) rfl (fun q => ?_) (fun q => ?_)
                                                                · replace hsh := zif_f q hsh
                                                                  cases hsh
                                                                · replace hsh := zif_t q hsh
                                                                  refine z_aload_n (pc' := 363) 2 dL_errors_362 rfl rfl rfl ?_
                                                                  refine z_iload_n (pc' := 364) 1 dL_errors_363 rfl rfl rfl ?_
                                                                  obtain ⟨q101, h102, hsh⟩ := zbind hsh
                                                                  refine z_callSw (pc' := 367) (As := [.ref a_p0, .int (zi q2)]) (rest := []) (wr := []) 2 (oc_most_t l D J hO97 q2 h102) dL_errors_364 gL_errors_L_most rfl rfl rfl (by decide +kernel) ⟨Nat.le_of_ble_eq_true rfl, Nat.le_of_ble_eq_true rfl⟩ ⟨Nat.le_of_ble_eq_true rfl, Nat.le_of_ble_eq_true rfl⟩ (z_spl_nil _) rfl rfl (Nat.le_of_ble_eq_true rfl) rfl (fun E w9 hq => hq.elim) (fun rv w100 hq => ?_)
                                                                  obtain ⟨rfl, hr100, hO100⟩ := hq
                                                                  refine z_ws w100 rfl ?_
                                                                  refine z_widen 62 372 (by decide) (by decide) ?_
                                                                  refine z_bipush (pc' := 369) dL_errors_367 (by decide) rfl ?_
                                                                  refine z_icmp_ne (pc' := 372) (tgt := 557) dL_errors_369 (by decide) hr100 (by decide) rfl (fun q => ?_) (fun q => ?_)
                                                                  · replace hsh := zif_f q hsh
                                                                    cases hsh
                                                                  · replace hsh := zif_t q hsh
                                                                    refine z_aload_n (pc' := 373) 2 dL_errors_372 rfl rfl rfl ?_
                                                                    refine z_iconst (pc' := 374) dL_errors_373 rfl ?_
                                                                    refine z_iconst (pc' := 375) dL_errors_374 rfl ?_
                                                                    obtain ⟨q104, h105, hsh⟩ := zbind hsh
                                                                    refine z_callSw (pc' := 378) (As := [.ref a_p0, .int (zi (0 : Int)), .int (zi (0 : Int))]) (rest := []) (wr := []) 3 (oc_best_t l D J hO100 (0 : Int) (0 : Int) h105) dL_errors_375 gL_errors_L_best rfl rfl rfl (by decide +kernel) ⟨Nat.le_of_ble_eq_true rfl, Nat.le_of_ble_eq_true rfl⟩ ⟨Nat.le_of_ble_eq_true rfl, Nat.le_of_ble_eq_true rfl⟩ (z_spl_nil _) rfl rfl (Nat.le_of_ble_eq_true rfl) rfl (fun E w9 hq => hq.elim) (fun rv w103 hq => ?_)
                                                                    obtain ⟨rfl, hr103, hO103⟩ := hq
                                                                    refine z_ws w103 rfl ?_
                                                                    refine z_widen 64 384 (by decide) (by decide) ?_
                                                                    refine z_bipush (pc' := 380) dL_errors_378 (by decide) rfl ?_
                                                                    refine z_icmp_ne (pc' := 383) (tgt := 557) dL_errors_380 (by decide) hr103 (by decide) rfl (fun q => ?_) (fun q => ?_)
                                                                    · replace hsh := zif_f q hsh
                                                                      cases hsh
                                                                    · replace hsh := zif_t q hsh
                                                                      refine z_aload_n (pc' := 384) 2 dL_errors_383 rfl rfl rfl ?_
                                                                      refine z_iconst (pc' := 385) dL_errors_384 rfl ?_
                                                                      refine z_iconst (pc' := 386) dL_errors_385 rfl ?_
                                                                      obtain ⟨q107, h108, hsh⟩ := zbind hsh
                                                                      refine z_callSw (pc' := 389) (As := [.ref a_p0, .int (zi (5 : Int)), .int (zi (0 : Int))]) (rest := []) (wr := []) 3 (oc_best_t l D J hO103 (5 : Int) (0 : Int) h108) dL_errors_386 gL_errors_L_best rfl rfl rfl (by decide +kernel) ⟨Nat.le_of_ble_eq_true rfl, Nat.le_of_ble_eq_true rfl⟩ ⟨Nat.le_of_ble_eq_true rfl, Nat.le_of_ble_eq_true rfl⟩ (z_spl_nil _) rfl rfl (Nat.le_of_ble_eq_true rfl) rfl (fun E w9 hq => hq.elim) (fun rv w106 hq => ?_)
                                                                      obtain ⟨rfl, hr106, hO106⟩ := hq
                                                                      refine z_ws w106 rfl ?_
                                                                      refine z_widen 66 396 (by decide) (by decide) ?_
                                                                      refine z_bipush (pc' := 391) dL_errors_389 (by decide) rfl ?_
                                                                      refine z_icmp_ne (pc' := 394) (tgt := 557) dL_errors_391 (by decide) hr106 (by decide) rfl (fun q => ?_) (fun q => ?_)
                                                                      · replace hsh := zif_f q hsh
                                                                        cases hsh
                                                                      · replace hsh := zif_t q hsh
                                                                        refine z_aload_n (pc' := 395) 2 dL_errors_394 rfl rfl rfl ?_
                                                                        refine z_iconst (pc' := 396) dL_errors_395 rfl ?_
                                                                        refine z_iconst (pc' := 397) dL_errors_396 rfl ?_
                                                                        obtain ⟨q110, h111, hsh⟩ := zbind hsh
                                                                        refine z_callSw (pc' := 400) (As := [.ref a_p0, .int (zi (2 : Int)), .int (zi (3 : Int))]) (rest := []) (wr := []) 3 (oc_best_t l D J hO106 (2 : Int) (3 : Int) h111) dL_errors_397 gL_errors_L_best rfl rfl rfl (by decide +kernel) ⟨Nat.le_of_ble_eq_true rfl, Nat.le_of_ble_eq_true rfl⟩ ⟨Nat.le_of_ble_eq_true rfl, Nat.le_of_ble_eq_true rfl⟩ (z_spl_nil _) rfl rfl (Nat.le_of_ble_eq_true rfl) rfl (fun E w9 hq => hq.elim) (fun rv w109 hq => ?_)
                                                                        obtain ⟨rfl, hr109, hO109⟩ := hq
                                                                        refine z_ws w109 rfl ?_
                                                                        refine z_widen 68 408 (by decide) (by decide) ?_
                                                                        refine z_bipush (pc' := 402) dL_errors_400 (by decide) rfl ?_
                                                                        refine z_icmp_ne (pc' := 405) (tgt := 557) dL_errors_402 (by decide) hr109 (by decide) rfl (fun q => ?_) (fun q => ?_)
                                                                        · replace hsh := zif_f q hsh
                                                                          cases hsh
                                                                        · replace hsh := zif_t q hsh
                                                                          refine z_aload_n (pc' := 406) 2 dL_errors_405 rfl rfl rfl ?_
                                                                          refine z_iconst (pc' := 407) dL_errors_406 rfl ?_
                                                                          refine z_iconst (pc' := 408) dL_errors_407 rfl ?_
                                                                          obtain ⟨q113, h114, hsh⟩ := zbind hsh
                                                                          refine z_callSw (pc' := 411) (As := [.ref a_p0, .int (zi (2 : Int)), .int (zi (-1 : Int))]) (rest := []) (wr := []) 3 (oc_best_t l D J hO109 (2 : Int) (-1 : Int) h114) dL_errors_408 gL_errors_L_best rfl rfl rfl (by decide +kernel) ⟨Nat.le_of_ble_eq_true rfl, Nat.le_of_ble_eq_true rfl⟩ ⟨Nat.le_of_ble_eq_true rfl, Nat.le_of_ble_eq_true rfl⟩ (z_spl_nil _) rfl rfl (Nat.le_of_ble_eq_true rfl) rfl (fun E w9 hq => hq.elim) (fun rv w112 hq => ?_)
                                                                          obtain ⟨rfl, hr112, hO112⟩ := hq
                                                                          refine z_ws w112 rfl ?_
                                                                          refine z_widen 70 420 (by decide) (by decide) ?_
                                                                          refine z_bipush (pc' := 413) dL_errors_411 (by decide) rfl ?_
                                                                          refine z_icmp_ne (pc' := 416) (tgt := 557) dL_errors_413 (by decide) hr112 (by decide) rfl (fun q => ?_) (fun q => ?_)
                                                                          · replace hsh := zif_f q hsh
                                                                            cases hsh
                                                                          · replace hsh := zif_t q hsh
                                                                            refine z_aload_n (pc' := 417) 2 dL_errors_416 rfl rfl rfl ?_
                                                                            refine z_iconst (pc' := 418) dL_errors_417 rfl ?_
                                                                            refine z_iconst (pc' := 419) dL_errors_418 rfl ?_
                                                                            obtain ⟨q116, h117, hsh⟩ := zbind hsh
                                                                            refine z_callSw (pc' := 422) (As := [.ref a_p0, .int (zi (0 : Int)), .int (zi (0 : Int))]) (rest := []) (wr := []) 3 (oc_origins_t l D J hO112 (0 : Int) (0 : Int) h117) dL_errors_419 gL_errors_L_origins rfl rfl rfl (by decide +kernel) ⟨Nat.le_of_ble_eq_true rfl, Nat.le_of_ble_eq_true rfl⟩ ⟨Nat.le_of_ble_eq_true rfl, Nat.le_of_ble_eq_true rfl⟩ (z_spl_nil _) rfl rfl (Nat.le_of_ble_eq_true rfl) rfl (fun E w9 hq => hq.elim) (fun rv w115 hq => ?_)
                                                                            obtain ⟨rfl, hr115, hO115⟩ := hq
                                                                            refine z_ws w115 rfl ?_
                                                                            refine z_widen 72 432 (by decide) (by decide) ?_
                                                                            refine z_bipush (pc' := 424) dL_errors_422 (by decide) rfl ?_
                                                                            refine z_icmp_ne (pc' := 427) (tgt := 557) dL_errors_424 (by decide) hr115 (by decide) rfl (fun q => ?_) (fun q => ?_)
                                                                            · replace hsh := zif_f q hsh
                                                                              cases hsh
                                                                            · replace hsh := zif_t q hsh
                                                                              refine z_aload_n (pc' := 428) 2 dL_errors_427 rfl rfl rfl ?_
                                                                              refine z_bipush (pc' := 430) dL_errors_428 (by decide) rfl ?_
                                                                              refine z_iconst (pc' := 431) dL_errors_430 rfl ?_
                                                                              obtain ⟨q119, h120, hsh⟩ := zbind hsh
                                                                              refine z_callSw (pc' := 434) (As := [.ref a_p0, .int (zi (10 : Int)), .int (zi (0 : Int))]) (rest := []) (wr := []) 3 (oc_origins_t l D J hO115 (10 : Int) (0 : Int) h120) dL_errors_431 gL_errors_L_origins rfl rfl rfl (by decide +kernel) ⟨Nat.le_of_ble_eq_true rfl, Nat.le_of_ble_eq_true rfl⟩ ⟨Nat.le_of_ble_eq_true rfl, Nat.le_of_ble_eq_true rfl⟩ (z_spl_nil _) rfl rfl (Nat.le_of_ble_eq_true rfl) rfl (fun E w9 hq => hq.elim) (fun rv w118 hq => ?_)
                                                                              obtain ⟨rfl, hr118, hO118⟩ := hq
                                                                              refine z_ws w118 rfl ?_
                                                                              refine z_widen 74 444 (by decide) (by decide) ?_
                                                                              refine z_bipush (pc' := 436) dL_errors_434 (by decide) rfl ?_
                                                                              refine z_icmp_ne (pc' := 439) (tgt := 557) dL_errors_436 (by decide) hr118 (by decide) rfl (fun q => ?_) (fun q => ?_)
                                                                              · replace hsh := zif_f q hsh
                                                                                cases hsh
                                                                              · replace hsh := zif_t q hsh
                                                                                refine z_aload_n (pc' := 440) 2 dL_errors_439 rfl rfl rfl ?_
                                                                                refine z_iconst (pc' := 441) dL_errors_440 rfl ?_
                                                                                refine z_bipush (pc' := 443) dL_errors_441 (by decide) rfl ?_
                                                                                obtain ⟨q122, h123, hsh⟩ := zbind hsh
                                                                                refine z_callSw (pc' := 446) (As := [.ref a_p0, .int (zi (2 : Int)), .int (zi (100 : Int))]) (rest := []) (wr := []) 3 (oc_origins_t l D J hO118 (2 : Int) (100 : Int) h123) dL_errors_443 gL_errors_L_origins rfl rfl rfl (by decide +kernel) ⟨Nat.le_of_ble_eq_true rfl, Nat.le_of_ble_eq_true rfl⟩ ⟨Nat.le_of_ble_eq_true rfl, Nat.le_of_ble_eq_true rfl⟩ (z_spl_nil _) rfl rfl (Nat.le_of_ble_eq_true rfl) rfl (fun E w9 hq => hq.elim) (fun rv w121 hq => ?_)
                                                                                obtain ⟨rfl, hr121, hO121⟩ := hq
                                                                                refine z_ws w121 rfl ?_
                                                                                refine z_widen 76 456 (by decide) (by decide) ?_
                                                                                refine z_bipush (pc' := 448) dL_errors_446 (by decide) rfl ?_
                                                                                refine z_icmp_ne (pc' := 451) (tgt := 557) dL_errors_448 (by decide) hr121 (by decide) rfl (fun q => ?_) (fun q => ?_)
                                                                                · replace hsh := zif_f q hsh
                                                                                  cases hsh
                                                                                · replace hsh := zif_t q hsh
                                                                                  refine z_aload_n (pc' := 452) 2 dL_errors_451 rfl rfl rfl ?_
                                                                                  refine z_iconst (pc' := 453) dL_errors_452 rfl ?_
                                                                                  refine z_iconst (pc' := 454) dL_errors_453 rfl ?_
                                                                                  obtain ⟨q125, h126, hsh⟩ := zbind hsh
                                                                                  refine z_callSw (pc' := 457) (As := [.ref a_p0, .int (zi (2 : Int)), .int (zi (-1 : Int))]) (rest := []) (wr := []) 3 (oc_origins_t l D J hO121 (2 : Int) (-1 : Int) h126) dL_errors_454 gL_errors_L_origins rfl rfl rfl (by decide +kernel) ⟨Nat.le_of_ble_eq_true rfl, Nat.le_of_ble_eq_true rfl⟩ ⟨Nat.le_of_ble_eq_true rfl, Nat.le_of_ble_eq_true rfl⟩ (z_spl_nil _) rfl rfl (Nat.le_of_ble_eq_true rfl) rfl (fun E w9 hq => hq.elim) (fun rv w124 hq => ?_)
                                                                                  obtain ⟨rfl, hr124, hO124⟩ := hq
                                                                                  refine z_ws w124 rfl ?_
                                                                                  refine z_widen 78 468 (by decide) (by decide) ?_
                                                                                  refine z_bipush (pc' := 459) dL_errors_457 (by decide) rfl ?_
                                                                                  refine z_icmp_ne (pc' := 462) (tgt := 557) dL_errors_459 (by decide) hr124 (by decide) rfl (fun q => ?_) (fun q => ?_)
                                                                                  · replace hsh := zif_f q hsh
                                                                                    cases hsh
                                                                                  · replace hsh := zif_t q hsh
                                                                                    refine z_aload_n (pc' := 463) 2 dL_errors_462 rfl rfl rfl ?_
                                                                                    refine z_iconst (pc' := 464) dL_errors_463 rfl ?_
                                                                                    refine z_lconst (pc' := 465) 0 dL_errors_464 (by decide) rfl ?_
                                                                                    obtain ⟨q128, h129, hsh⟩ := zbind hsh
                                                                                    refine z_callSw (pc' := 468) (As := [.ref a_p0, .int (zi (0 : Int)), .long (zl (0 : Int))]) (rest := []) (wr := []) 3 (oc_script_t l D J hO124 (0 : Int) (0 : Int) h129) dL_errors_465 gL_errors_L_script rfl rfl rfl (by decide +kernel) ⟨Nat.le_of_ble_eq_true rfl, Nat.le_of_ble_eq_true rfl⟩ ⟨Nat.le_of_ble_eq_true rfl, Nat.le_of_ble_eq_true rfl⟩ (z_spl_nil _) rfl rfl (Nat.le_of_ble_eq_true rfl) rfl (fun E w9 hq => hq.elim) (fun rv w127 hq => ?_)
                                                                                    obtain ⟨rfl, hr127, hO127⟩ := hq
                                                                                    refine z_ws w127 rfl ?_
                                                                                    refine z_widen 80 480 (by decide) (by decide) ?_
                                                                                    refine z_bipush (pc' := 470) dL_errors_468 (by decide) rfl ?_
                                                                                    refine z_icmp_ne (pc' := 473) (tgt := 557) dL_errors_470 (by decide) hr127 (by decide) rfl (fun q => ?_) (fun q => ?_)
                                                                                    · replace hsh := zif_f q hsh
                                                                                      cases hsh
                                                                                    · replace hsh := zif_t q hsh
                                                                                      refine z_aload_n (pc' := 474) 2 dL_errors_473 rfl rfl rfl ?_
                                                                                      refine z_iconst (pc' := 475) dL_errors_474 rfl ?_
                                                                                      refine z_lconst (pc' := 476) 0 dL_errors_475 (by decide) rfl ?_
                                                                                      obtain ⟨q131, h132, hsh⟩ := zbind hsh
                                                                                      refine z_callSw (pc' := 479) (As := [.ref a_p0, .int (zi (5 : Int)), .long (zl (0 : Int))]) (rest := []) (wr := []) 3 (oc_script_t l D J hO127 (5 : Int) (0 : Int) h132) dL_errors_476 gL_errors_L_script rfl rfl rfl (by decide +kernel) ⟨Nat.le_of_ble_eq_true rfl, Nat.le_of_ble_eq_true rfl⟩ ⟨Nat.le_of_ble_eq_true rfl, Nat.le_of_ble_eq_true rfl⟩ (z_spl_nil _) rfl rfl (Nat.le_of_ble_eq_true rfl) rfl (fun E w9 hq => hq.elim) (fun rv w130 hq => ?_)
                                                                                      obtain ⟨rfl, hr130, hO130⟩ := hq
                                                                                      refine z_ws w130 rfl ?_
                                                                                      refine z_widen 82 492 (by decide) (by decide) ?_
                                                                                      refine z_bipush (pc' := 481) dL_errors_479 (by decide) rfl ?_
                                                                                      refine z_icmp_ne (pc' := 484) (tgt := 557) dL_errors_481 (by decide) hr130 (by decide) rfl (fun q => ?_) (fun q => ?_)
                                                                                      · replace hsh := zif_f q hsh
                                                                                        cases hsh
                                                                                      · replace hsh := zif_t q hsh
                                                                                        refine z_aload_n (pc' := 485) 2 dL_errors_484 rfl rfl rfl ?_
                                                                                        refine z_iconst (pc' := 486) dL_errors_485 rfl ?_
                                                                                        refine z_ldc2 (pc' := 489) (10000 : Int) dL_errors_486 mL_errors_k171 (by decide) rfl ?_
                                                                                        obtain ⟨q134, h135, hsh⟩ := zbind hsh
                                                                                        refine z_callSw (pc' := 492) (As := [.ref a_p0, .int (zi (1 : Int)), .long (zl (10000 : Int))]) (rest := []) (wr := []) 3 (oc_script_t l D J hO130 (1 : Int) (10000 : Int) h135) dL_errors_489 gL_errors_L_script rfl rfl rfl (by decide +kernel) ⟨Nat.le_of_ble_eq_true rfl, Nat.le_of_ble_eq_true rfl⟩ ⟨Nat.le_of_ble_eq_true rfl, Nat.le_of_ble_eq_true rfl⟩ (z_spl_nil _) rfl rfl (Nat.le_of_ble_eq_true rfl) rfl (fun E w9 hq => hq.elim) (fun rv w133 hq => ?_)
                                                                                        obtain ⟨rfl, hr133, hO133⟩ := hq
                                                                                        refine z_ws w133 rfl ?_
                                                                                        refine z_widen 84 504 (by decide) (by decide) ?_
                                                                                        refine z_bipush (pc' := 494) dL_errors_492 (by decide) rfl ?_
                                                                                        refine z_icmp_ne (pc' := 497) (tgt := 557) dL_errors_494 (by decide) hr133 (by decide) rfl (fun q => ?_) (fun q => ?_)
                                                                                        · replace hsh := zif_f q hsh
                                                                                          cases hsh
                                                                                        · replace hsh := zif_t q hsh
                                                                                          refine z_aload_n (pc' := 498) 2 dL_errors_497 rfl rfl rfl ?_
                                                                                          refine z_iconst (pc' := 499) dL_errors_498 rfl ?_
                                                                                          refine z_ldc2 (pc' := 502) (-1 : Int) dL_errors_499 mL_errors_k173 (by decide) rfl ?_
                                                                                          obtain ⟨q137, h138, hsh⟩ := zbind hsh
                                                                                          refine z_callSw (pc' := 505) (As := [.ref a_p0, .int (zi (1 : Int)), .long (zl (-1 : Int))]) (rest := []) (wr := []) 3 (oc_script_t l D J hO133 (1 : Int) (-1 : Int) h138) dL_errors_502 gL_errors_L_script rfl rfl rfl (by decide +kernel) ⟨Nat.le_of_ble_eq_true rfl, Nat.le_of_ble_eq_true rfl⟩ ⟨Nat.le_of_ble_eq_true rfl, Nat.le_of_ble_eq_true rfl⟩ (z_spl_nil _) rfl rfl (Nat.le_of_ble_eq_true rfl) rfl (fun E w9 hq => hq.elim) (fun rv w136 hq => ?_)
                                                                                          obtain ⟨rfl, hr136, hO136⟩ := hq
                                                                                          refine z_ws w136 rfl ?_
                                                                                          refine z_widen 86 516 (by decide) (by decide) ?_
                                                                                          refine z_bipush (pc' := 507) dL_errors_505 (by decide) rfl ?_
                                                                                          refine z_icmp_ne (pc' := 510) (tgt := 557) dL_errors_507 (by decide) hr136 (by decide) rfl (fun q => ?_) (fun q => ?_)
                                                                                          · replace hsh := zif_f q hsh
                                                                                            cases hsh
                                                                                          · replace hsh := zif_t q hsh
                                                                                            refine z_aload_n (pc' := 511) 2 dL_errors_510 rfl rfl rfl ?_
                                                                                            refine z_iconst (pc' := 512) dL_errors_511 rfl ?_
                                                                                            refine z_iconst (pc' := 513) dL_errors_512 rfl ?_
                                                                                            obtain ⟨q140, h141, hsh⟩ := zbind hsh
                                                                                            refine z_callSw (pc' := 516) (As := [.ref a_p0, .int (zi (1 : Int)), .int (zi (0 : Int))]) (rest := []) (wr := []) 3 (oc_simulate_t l D J hO136 (1 : Int) (0 : Int) h141) dL_errors_513 gL_errors_L_simulate rfl rfl rfl (by decide +kernel) ⟨Nat.le_of_ble_eq_true rfl, Nat.le_of_ble_eq_true rfl⟩ ⟨Nat.le_of_ble_eq_true rfl, Nat.le_of_ble_eq_true rfl⟩ (z_spl_nil _) rfl rfl (Nat.le_of_ble_eq_true rfl) rfl (fun E w9 hq => hq.elim) (fun rv w139 hq => ?_)
                                                                                            obtain ⟨rfl, hr139, hO139⟩ := hq
                                                                                            refine z_ws w139 rfl ?_
                                                                                            refine z_widen 87 522 (by decide) (by decide) ?_
                                                                                            refine z_bipush (pc' := 518) dL_errors_516 (by decide) rfl ?_
                                                                                            refine z_icmp_ne (pc' := 521) (tgt := 557) dL_errors_518 (by decide) hr139 (by decide) rfl (fun q => ?_) (fun q => ?_)
                                                                                            · replace hsh := zif_f q hsh
                                                                                              cases hsh
                                                                                            · replace hsh := zif_t q hsh
                                                                                              refine z_aload_n (pc' := 522) 2 dL_errors_521 rfl rfl rfl ?_
                                                                                              refine z_iconst (pc' := 523) dL_errors_522 rfl ?_
                                                                                              refine z_bipush (pc' := 525) dL_errors_523 (by decide) rfl ?_
                                                                                              obtain ⟨q143, h144, hsh⟩ := zbind hsh
                                                                                              refine z_callSw (pc' := 528) (As := [.ref a_p0, .int (zi (1 : Int)), .int (zi (101 : Int))]) (rest := []) (wr := []) 3 (oc_simulate_t l D J hO139 (1 : Int) (101 : Int) h144) dL_errors_525 gL_errors_L_simulate rfl rfl rfl (by decide +kernel) ⟨Nat.le_of_ble_eq_true rfl, Nat.le_of_ble_eq_true rfl⟩ ⟨Nat.le_of_ble_eq_true rfl, Nat.le_of_ble_eq_true rfl⟩ (z_spl_nil _) rfl rfl (Nat.le_of_ble_eq_true rfl) rfl (fun E w9 hq => hq.elim) (fun rv w142 hq => ?_)
                                                                                              obtain ⟨rfl, hr142, hO142⟩ := hq
                                                                                              refine z_ws w142 rfl ?_
                                                                                              refine z_widen 88 528 (by decide) (by decide) ?_
                                                                                              refine z_bipush (pc' := 530) dL_errors_528 (by decide) rfl ?_
                                                                                              refine z_icmp_ne (pc' := 533) (tgt := 557) dL_errors_530 (by decide) hr142 (by decide) rfl (fun q => ?_) (fun q => ?_)
                                                                                              · replace hsh := zif_f q hsh
                                                                                                cases hsh
                                                                                              · replace hsh := zif_t q hsh
                                                                                                refine z_aload_n (pc' := 534) 2 dL_errors_533 rfl rfl rfl ?_
                                                                                                refine z_iconst (pc' := 535) dL_errors_534 rfl ?_
                                                                                                obtain ⟨q146, h147, hsh⟩ := zbind hsh
                                                                                                refine z_callSw (pc' := 538) (As := [.ref a_p0, .int (zi (2 : Int))]) (rest := []) (wr := []) 2 (oc_save_t l D J hO142 (2 : Int) h147) dL_errors_535 gL_errors_L_save rfl rfl rfl (by decide +kernel) ⟨Nat.le_of_ble_eq_true rfl, Nat.le_of_ble_eq_true rfl⟩ ⟨Nat.le_of_ble_eq_true rfl, Nat.le_of_ble_eq_true rfl⟩ (z_spl_nil _) rfl rfl (Nat.le_of_ble_eq_true rfl) rfl (fun E w9 hq => hq.elim) (fun rv w145 hq => ?_)
                                                                                                obtain ⟨rfl, hr145, hO145⟩ := hq
                                                                                                refine z_ws w145 rfl ?_
                                                                                                refine z_widen 89 534 (by decide) (by decide) ?_
                                                                                                refine z_bipush (pc' := 540) dL_errors_538 (by decide) rfl ?_
                                                                                                refine z_icmp_ne (pc' := 543) (tgt := 557) dL_errors_540 (by decide) hr145 (by decide) rfl (fun q => ?_) (fun q => ?_)
                                                                                                · replace hsh := zif_f q hsh
                                                                                                  cases hsh
                                                                                                · replace hsh := zif_t q hsh
                                                                                                  refine z_aload_n (pc' := 544) 2 dL_errors_543 rfl rfl rfl ?_
                                                                                                  refine z_iconst (pc' := 545) dL_errors_544 rfl ?_
                                                                                                  obtain ⟨q149, h150, hsh⟩ := zbind hsh
                                                                                                  refine z_callSw (pc' := 548) (As := [.ref a_p0, .int (zi (-1 : Int))]) (rest := []) (wr := []) 2 (oc_restore_t l D J hO145 (-1 : Int) h150) dL_errors_545 gL_errors_L_restore rfl rfl rfl (by decide +kernel) ⟨Nat.le_of_ble_eq_true rfl, Nat.le_of_ble_eq_true rfl⟩ ⟨Nat.le_of_ble_eq_true rfl, Nat.le_of_ble_eq_true rfl⟩ (z_spl_nil _) rfl rfl (Nat.le_of_ble_eq_true rfl) rfl (fun E w9 hq => hq.elim) (fun rv w148 hq => ?_)
                                                                                                  obtain ⟨rfl, hr148, hO148⟩ := hq
                                                                                                  refine z_ws w148 rfl ?_
                                                                                                  refine z_widen 91 546 (by decide) (by decide) ?_
                                                                                                  refine z_bipush (pc' := 550) dL_errors_548 (by decide) rfl ?_
                                                                                                  refine z_icmp_ne (pc' := 553) (tgt := 557) dL_errors_550 (by decide) hr148 (by decide) rfl (fun q => ?_) (fun q => ?_)
                                                                                                  · replace hsh := zif_f q hsh
                                                                                                    cases hsh
                                                                                                  · replace hsh := zif_t q hsh
                                                                                                    refine z_iconst (pc' := 554) dL_errors_553 rfl ?_
                                                                                                    refine z_goto (tgt := 558) dL_errors_554 (by decide) ?_
                                                                                                    refine z_istore_n (pc' := 559) [(2, .int (zi (1 : Int))), (1, .int (zi q2)), (0, .ref a_p0)] dL_errors_558 rfl (by decide) rfl rfl ?_
                                                                                                    refine z_iconst (pc' := 560) dL_errors_559 rfl ?_
                                                                                                    refine z_istore_n (pc' := 561) [(3, .int (zi (0 : Int))), (2, .int (zi (1 : Int))), (1, .int (zi q2)), (0, .ref a_p0)] dL_errors_560 rfl (by decide) rfl rfl ?_
                                                                                                    refine z_lv [(0, .ref a_p0), (1, .int (zi q2)), (2, .int (zi (1 : Int))), (3, .int (zi (0 : Int)))] [3, 2, 1, 0] rfl ?_
                                                                                                    refine zl_L_errors_L561 (F := F) (hk := fun v203 ws204_p0 hO204_p0 hsh => ?_) _ _ _ _ _ hO148 (by omega) (by omega) hsh
                                                                                                    refine z_iload_n (pc' := 656) 0 dL_errors_655 rfl rfl rfl ?_
                                                                                                    cases hsh
                                                                                                    exact z_zret rfl (by decide) dL_errors_656 ⟨rfl, hO204_p0⟩
