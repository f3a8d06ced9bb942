noncomputable def sh_L_bounds_L48 (F : Nat) (A_p0 : zO) (p1 : Int) (q2 : Int) (v11 : Int) (k : Int → Int → Int → Option (Int)) : Nat → Int → Int → Int → Option (Int)
  | 0, _, _, _ => none
  | N + 1, v20, v21, v22 => zkr v22 (zkr q2 (if v22 < q2 then (sh_L_areBeside F p1 v11 v22).bind (fun (q26 : Int) => zkr q26 (if q26 = (0 : Int) then sh_L_bounds_L48 F A_p0 p1 q2 v11 k N v20 v21 (v22 + (1 : Int)) else (kd_bound A_p0).bind (fun (q30 : Int) => (kn_drawn A_p0 v11).bind (fun (q33 : Int) => (kn_drawn A_p0 v22).bind (fun (q36 : Int) => zkr ((q30 - q33) + q36) (if ((q30 - q33) + q36) < (0 : Int) then none else zkr v21 (sh_L_bounds_L48 F A_p0 p1 q2 v11 k N (zor v20 (if ((q30 - q33) + q36) = (0 : Int) then (zshl (1 : Int) v22) else (0 : Int))) (if ((q30 - q33) + q36) < v21 then ((q30 - q33) + q36) else v21) (v22 + (1 : Int))))))))) else k v20 v21 v22))
noncomputable def sh_L_bounds_L20 (F : Nat) (A_p0 : zO) (p1 : Int) (q2 : Int) (k : Int → Int → Int → Int → Option (Int)) : Nat → Int → Int → Int → Int → Option (Int)
  | 0, _, _, _, _ => none
  | N + 1, v8, v9, v10, v11 => zkr v11 (zkr q2 (if v11 < q2 then (kn_remaining A_p0 v11).bind (fun (q15 : Int) => sh_L_bounds_L48 F A_p0 p1 q2 v11 (fun (v41 : Int) (v42 : Int) (v43 : Int) => (kn_hung A_p0 v11).bind (fun (q46 : Int) => (kn_grade A_p0 v11 (0 : Int)).bind (fun (q49 : Int) => (kn_blockers A_p0 v11).bind (fun (q52 : Int) => zkr v41 (if q52 = v41 then (kn_slack A_p0 v11).bind (fun (q56 : Int) => zkr (if q46 = (1 : Int) then (0 : Int) else v42) (if q56 = (if q46 = (1 : Int) then (0 : Int) else v42) then (kn_ready A_p0 v11).bind (fun (q60 : Int) => if (if q60 = (1 : Int) then (1 : Int) else (0 : Int)) = (if (0 : Int) < (if q46 = (1 : Int) then (0 : Int) else v42) then (1 : Int) else (0 : Int)) then if (if q49 = (-9 : Int) then (1 : Int) else (0 : Int)) = (if q15 = (0 : Int) then (1 : Int) else (0 : Int)) then (kn_slices A_p0 v11).bind (fun (q67 : Int) => if (if (0 : Int) < q67 then (1 : Int) else (0 : Int)) = (if (0 : Int) < q15 then (1 : Int) else (0 : Int)) then if q15 = (0 : Int) then (kn_grade A_p0 v11 q15).bind (fun (q72 : Int) => if q72 = (-9 : Int) then zkr v9 (if v9 < (if q46 = (1 : Int) then (0 : Int) else v42) then sh_L_bounds_L20 F A_p0 p1 q2 k N v11 (if q46 = (1 : Int) then (0 : Int) else v42) q49 (v11 + (1 : Int)) else if (0 : Int) < (if q46 = (1 : Int) then (0 : Int) else v42) then if (if q46 = (1 : Int) then (0 : Int) else v42) = v9 then zkr v10 (if v10 < q49 then sh_L_bounds_L20 F A_p0 p1 q2 k N v11 (if q46 = (1 : Int) then (0 : Int) else v42) q49 (v11 + (1 : Int)) else sh_L_bounds_L20 F A_p0 p1 q2 k N v8 v9 v10 (v11 + (1 : Int))) else sh_L_bounds_L20 F A_p0 p1 q2 k N v8 v9 v10 (v11 + (1 : Int)) else sh_L_bounds_L20 F A_p0 p1 q2 k N v8 v9 v10 (v11 + (1 : Int))) else none) else (kn_grade A_p0 v11 (q15 - (1 : Int))).bind (fun (q77 : Int) => if q77 = (-9 : Int) then none else (kn_grade A_p0 v11 q15).bind (fun (q80 : Int) => if q80 = (-9 : Int) then zkr v9 (if v9 < (if q46 = (1 : Int) then (0 : Int) else v42) then sh_L_bounds_L20 F A_p0 p1 q2 k N v11 (if q46 = (1 : Int) then (0 : Int) else v42) q49 (v11 + (1 : Int)) else if (0 : Int) < (if q46 = (1 : Int) then (0 : Int) else v42) then if (if q46 = (1 : Int) then (0 : Int) else v42) = v9 then zkr v10 (if v10 < q49 then sh_L_bounds_L20 F A_p0 p1 q2 k N v11 (if q46 = (1 : Int) then (0 : Int) else v42) q49 (v11 + (1 : Int)) else sh_L_bounds_L20 F A_p0 p1 q2 k N v8 v9 v10 (v11 + (1 : Int))) else sh_L_bounds_L20 F A_p0 p1 q2 k N v8 v9 v10 (v11 + (1 : Int)) else sh_L_bounds_L20 F A_p0 p1 q2 k N v8 v9 v10 (v11 + (1 : Int))) else none)) else none) else none else none) else none)) else none))))) F (0 : Int) q15 (0 : Int)) else k v8 v9 v10 v11))
noncomputable def sh_L_bounds (F : Nat) (A_p0 : zO) (p1 : Int) : Option (Int) := (kd_pointCount A_p0).bind (fun (q2 : Int) => sh_L_bounds_L20 F A_p0 p1 q2 (fun (v84 : Int) (v85 : Int) (v86 : Int) (v87 : Int) => (kd_nextByOrder A_p0).bind (fun (q90 : Int) => zkr v84 (if q90 = v84 then (kn_ahead A_p0 (0 : Int)).bind (fun (q94 : Int) => if q94 = v84 then some ((1 : Int)) else none) else none))) F (-9 : Int) (0 : Int) (-1 : Int) (0 : Int))
set_option maxRecDepth 100000 in
set_option maxHeartbeats 4000000 in
theorem zl_L_bounds_L48 {p : Program} {l : Launch} {e : Env} {s : State} {m : MethodId} {args : Array Value} {below : List Frame} {meth : Method} {c : Code} {A : Nat → Prop} {D : va_G} {J : Nat → ClassId} {F : Nat} {a_p0 : Nat} {A_p0 : zO} {p1 : Int} {q2 : Int} {v11 : Int} {v8 : Int} {v9 : Int} {v10 : Int} {q15 : Int} {res : Int} {k : Int → Int → Int → Option (Int)} (hk : ∀ (v20' : Int) (v21' : Int) (v22' : Int) (ws_p0' : va_W), cOB J a_p0 A_p0 ws_p0' → k v20' v21' v22' = some res → Z p l e ({ frames := 7, cells := 0, slots := 0, locals := 176 } : Room) s m args below meth c (MQ below (zQ D J A (fun rv w9 => rv = some (.int (zi res)) ∧ cOB J a_p0 A_p0 w9)) args s 0 0 A) cL_bounds 13 wsL_bounds RL D J A (some .boolean) (yL_bounds.name, []) 0 0 ws_p0' [(0, .ref a_p0), (1, .int (zi p1)), (2, .int (zi q2)), (3, .int (zi (1 : Int))), (4, .int (zi v8)), (5, .int (zi v9)), (6, .int (zi v10)), (7, .int (zi v11)), (8, .int (zi q15)), (9, .int (zi v20')), (10, .int (zi v21'))] 140 []) : ∀ (N : Nat) (v20 : Int) (v21 : Int) (v22 : Int) (ws_p0 : va_W), cOB J a_p0 A_p0 ws_p0 → sh_L_bounds_L48 F A_p0 p1 q2 v11 k N v20 v21 v22 = some res → Z p l e ({ frames := 7, cells := 0, slots := 0, locals := 176 } : Room) s m args below meth c (MQ below (zQ D J A (fun rv w9 => rv = some (.int (zi res)) ∧ cOB J a_p0 A_p0 w9)) args s 0 0 A) cL_bounds 13 wsL_bounds RL D J A (some .boolean) (yL_bounds.name, []) 0 0 ws_p0 [(0, .ref a_p0), (1, .int (zi p1)), (2, .int (zi q2)), (3, .int (zi (1 : Int))), (4, .int (zi v8)), (5, .int (zi v9)), (6, .int (zi v10)), (7, .int (zi v11)), (8, .int (zi q15)), (9, .int (zi v20)), (10, .int (zi v21)), (11, .int (zi v22))] 48 [] := by
  intro N
  induction N with
  | zero =>
    intro v20 v21 v22 ws_p0 hO_p0 hsh
    exact absurd hsh (by simp [sh_L_bounds_L48])
  | succ N ih =>
    intro v20 v21 v22 ws_p0 hO_p0 hsh
    rw [sh_L_bounds_L48] at hsh
    refine z_iload (pc' := 50) 11 dL_bounds_48 rfl rfl ?_
    refine z_iload_n (pc' := 51) 2 dL_bounds_50 rfl rfl rfl ?_
    have g23 := zkr_p hsh
    replace hsh := zkr_k hsh
    have g24 := zkr_p hsh
    replace hsh := zkr_k hsh
    refine z_icmp_ge (pc' := 54) (tgt := 140) dL_bounds_51 (by decide) g23 g24 rfl (fun q => ?_) (fun q => ?_)
    · replace hsh := zif_f q hsh
      refine z_lv [(0, .ref a_p0), (1, .int (zi p1)), (2, .int (zi q2)), (3, .int (zi (1 : Int))), (4, .int (zi v8)), (5, .int (zi v9)), (6, .int (zi v10)), (7, .int (zi v11)), (8, .int (zi q15)), (9, .int (zi v20)), (10, .int (zi v21))] [0, 1, 2, 3, 4, 5, 6, 7, 8, 9, 10] rfl ?_
      exact hk _ _ _ _ hO_p0 hsh
    · replace hsh := zif_t q hsh
      refine z_iload_n (pc' := 55) 1 dL_bounds_54 rfl rfl rfl ?_
      refine z_iload (pc' := 57) 7 dL_bounds_55 rfl rfl ?_
      refine z_iload (pc' := 59) 11 dL_bounds_57 rfl rfl ?_
      obtain ⟨q26, h27, hsh⟩ := zbind hsh
      refine z_callS (pc' := 62) (As := [.int (zi p1), .int (zi v11), .int (zi v22)]) (rest := []) (wr := ws_p0) 3 (zc_L_areBeside l D J F p1 v11 v22 q26 h27) dL_bounds_59 gL_bounds_L_areBeside rfl rfl rfl (by decide +kernel) ⟨Nat.le_of_ble_eq_true rfl, Nat.le_of_ble_eq_true rfl⟩ ⟨Nat.le_of_ble_eq_true rfl, Nat.le_of_ble_eq_true rfl⟩ (z_spl_e _) rfl rfl (Nat.le_of_ble_eq_true rfl) rfl (fun rv w9 hq => ?_)
      obtain ⟨rfl, rfl⟩ := hq
      refine z_ws ws_p0 (List.append_nil _) ?_
      have g28 := zkr_p hsh
      replace hsh := zkr_k hsh
      refine z_if_eq (pc' := 65) (tgt := 134) dL_bounds_62 (by decide) g28 rfl (fun q => ?_) (fun q => ?_)
      · replace hsh := zif_t q hsh
        refine z_iinc (pc' := 137) [(11, .int (zi (v22 + (1 : Int)))), (0, .ref a_p0), (1, .int (zi p1)), (2, .int (zi q2)), (3, .int (zi (1 : Int))), (4, .int (zi v8)), (5, .int (zi v9)), (6, .int (zi v10)), (7, .int (zi v11)), (8, .int (zi q15)), (9, .int (zi v20)), (10, .int (zi v21))] 11 dL_bounds_134 rfl (by decide) rfl rfl ?_
        refine z_goto (tgt := 48) dL_bounds_137 (by decide) ?_
        refine z_lv [(0, .ref a_p0), (1, .int (zi p1)), (2, .int (zi q2)), (3, .int (zi (1 : Int))), (4, .int (zi v8)), (5, .int (zi v9)), (6, .int (zi v10)), (7, .int (zi v11)), (8, .int (zi q15)), (9, .int (zi v20)), (10, .int (zi v21)), (11, .int (zi (v22 + (1 : Int))))] [1, 2, 3, 4, 5, 6, 7, 8, 9, 10, 11, 0] rfl ?_
        exact ih _ _ _ _ hO_p0 hsh
      · replace hsh := zif_f q hsh
        refine z_aload_n (pc' := 66) 0 dL_bounds_65 rfl rfl rfl ?_
        obtain ⟨q30, h31, hsh⟩ := zbind hsh
        obtain ⟨fs29, h0_29⟩ := hO_p0.h0
        refine z_callV (pc' := 69) (C := RX8) (As := []) (rest := []) (wr := []) 0 (oc_bound_d l D J hO_p0 h31) dL_bounds_66 gL_bounds_X8_bound rfl rfl rfl (by decide +kernel) ⟨Nat.le_of_ble_eq_true rfl, Nat.le_of_ble_eq_true rfl⟩ ⟨Nat.le_of_ble_eq_true rfl, Nat.le_of_ble_eq_true rfl⟩ (z_spl_nil _) h0_29 rfl rfl rfl (Nat.le_of_ble_eq_true rfl) rfl (fun rv w29 hq => ?_)
        obtain ⟨rfl, hr29, hO29⟩ := hq
        refine z_ws w29 rfl ?_
        refine z_aload_n (pc' := 70) 0 dL_bounds_69 rfl rfl rfl ?_
        refine z_iload (pc' := 72) 7 dL_bounds_70 rfl rfl ?_
        obtain ⟨q33, h34, hsh⟩ := zbind hsh
        refine z_callSw (pc' := 75) (As := [.ref a_p0, .int (zi v11)]) (rest := [.int (zi q30)]) (wr := []) 2 (oc_drawn_n l D J hO29 v11 h34) dL_bounds_72 gL_bounds_L_drawn rfl rfl rfl (by decide +kernel) ⟨Nat.le_of_ble_eq_true rfl, Nat.le_of_ble_eq_true rfl⟩ ⟨Nat.le_of_ble_eq_true rfl, Nat.le_of_ble_eq_true rfl⟩ (z_spl_nil _) rfl rfl (Nat.le_of_ble_eq_true rfl) rfl (fun E w9 hq => hq.elim) (fun rv w32 hq => ?_)
        obtain ⟨rfl, hr32, hO32⟩ := hq
        refine z_ws w32 rfl ?_
        refine z_isub (pc' := 76) dL_bounds_75 rfl ?_
        refine z_aload_n (pc' := 77) 0 dL_bounds_76 rfl rfl rfl ?_
        refine z_iload (pc' := 79) 11 dL_bounds_77 rfl rfl ?_
        obtain ⟨q36, h37, hsh⟩ := zbind hsh
        refine z_callSw (pc' := 82) (As := [.ref a_p0, .int (zi v22)]) (rest := [.int (zi (q30 - q33))]) (wr := []) 2 (oc_drawn_n l D J hO32 v22 h37) dL_bounds_79 gL_bounds_L_drawn rfl rfl rfl (by decide +kernel) ⟨Nat.le_of_ble_eq_true rfl, Nat.le_of_ble_eq_true rfl⟩ ⟨Nat.le_of_ble_eq_true rfl, Nat.le_of_ble_eq_true rfl⟩ (z_spl_nil _) rfl rfl (Nat.le_of_ble_eq_true rfl) rfl (fun E w9 hq => hq.elim) (fun rv w35 hq => ?_)
        obtain ⟨rfl, hr35, hO35⟩ := hq
        refine z_ws w35 rfl ?_
        refine z_iadd (pc' := 83) dL_bounds_82 rfl ?_
        refine z_istore (pc' := 85) [(12, .int (zi ((q30 - q33) + q36))), (0, .ref a_p0), (1, .int (zi p1)), (2, .int (zi q2)), (3, .int (zi (1 : Int))), (4, .int (zi v8)), (5, .int (zi v9)), (6, .int (zi v10)), (7, .int (zi v11)), (8, .int (zi q15)), (9, .int (zi v20)), (10, .int (zi v21)), (11, .int (zi v22))] dL_bounds_83 (by decide) rfl rfl ?_
        refine z_iload_n (pc' := 86) 4 dL_bounds_85 rfl rfl rfl ?_
        refine z_if_eq (pc' := 89) (tgt := 98) dL_bounds_86 (by decide) (by decide) rfl (fun q => absurd q (by decide)) (fun q => ?_)
        refine z_iload (pc' := 91) 0 dL_bounds_89 rfl rfl ?_
        have g38 := zkr_p hsh
        replace hsh := zkr_k hsh
        refine z_if_lt (pc' := 94) (tgt := 98) dL_bounds_91 (by decide) g38 rfl (fun q => ?_) (fun q => ?_)
        · replace hsh := zif_t q hsh
          cases hsh
        · replace hsh := zif_f q hsh
          refine z_iconst (pc' := 95) dL_bounds_94 rfl ?_
          refine z_goto (tgt := 99) dL_bounds_95 (by decide) ?_
          refine z_istore_n (pc' := 100) [(3, .int (zi (1 : Int))), (12, .int (zi ((q30 - q33) + q36))), (0, .ref a_p0), (1, .int (zi p1)), (2, .int (zi q2)), (4, .int (zi v8)), (5, .int (zi v9)), (6, .int (zi v10)), (7, .int (zi v11)), (8, .int (zi q15)), (9, .int (zi v20)), (10, .int (zi v21)), (11, .int (zi v22))] dL_bounds_99 rfl (by decide) rfl rfl ?_
          refine z_iload (pc' := 102) 10 dL_bounds_100 rfl rfl ?_
          refine z_iload (pc' := 104) 1 dL_bounds_102 rfl rfl ?_
          refine z_pmin (c := ((q30 - q33) + q36) = (0 : Int)) (u := (zshl (1 : Int) v22)) (v := (0 : Int)) (fun y9 => Z p l e ({ frames := 7, cells := 0, slots := 0, locals := 176 } : Room) s m args below meth c (MQ below (zQ D J A (fun rv w9 => rv = some (.int (zi res)) ∧ cOB J a_p0 A_p0 w9)) args s 0 0 A) cL_bounds 13 wsL_bounds RL D J A (some .boolean) (yL_bounds.name, []) 0 0 w35 [(3, .int (zi (1 : Int))), (12, .int (zi ((q30 - q33) + q36))), (0, .ref a_p0), (1, .int (zi p1)), (2, .int (zi q2)), (4, .int (zi v8)), (5, .int (zi v9)), (6, .int (zi v10)), (7, .int (zi v11)), (8, .int (zi q15)), (9, .int (zi v20)), (10, .int (zi v21)), (11, .int (zi v22))] 115 [.int (zi y9), .int (zi v20)]) (fun j1 j2 => ?_) ?_
          · refine z_if_ne (pc' := 107) (tgt := 114) dL_bounds_104 (by decide) g38 rfl (fun q => ?_) (fun q => ?_)
            · refine z_iconst (pc' := 115) dL_bounds_114 rfl ?_
              exact j2 q
            · refine z_iconst (pc' := 108) dL_bounds_107 rfl ?_
              refine z_iload (pc' := 110) 12 dL_bounds_108 rfl rfl ?_
              refine z_ishl (pc' := 111) dL_bounds_110 rfl ?_
              refine z_goto (tgt := 115) dL_bounds_111 (by decide) ?_
              exact j1 q
          refine z_ior (pc' := 116) dL_bounds_115 rfl ?_
          refine z_istore (pc' := 118) [(9, .int (zi (zor v20 (if ((q30 - q33) + q36) = (0 : Int) then (zshl (1 : Int) v22) else (0 : Int))))), (3, .int (zi (1 : Int))), (12, .int (zi ((q30 - q33) + q36))), (0, .ref a_p0), (1, .int (zi p1)), (2, .int (zi q2)), (4, .int (zi v8)), (5, .int (zi v9)), (6, .int (zi v10)), (7, .int (zi v11)), (8, .int (zi q15)), (10, .int (zi v21)), (11, .int (zi v22))] dL_bounds_116 (by decide) rfl rfl ?_
          refine z_iload (pc' := 120) 2 dL_bounds_118 rfl rfl ?_
          refine z_iload (pc' := 122) 11 dL_bounds_120 rfl rfl ?_
          have g39 := zkr_p hsh
          replace hsh := zkr_k hsh
          refine z_pmin (c := ((q30 - q33) + q36) < v21) (u := ((q30 - q33) + q36)) (v := v21) (fun y9 => Z p l e ({ frames := 7, cells := 0, slots := 0, locals := 176 } : Room) s m args below meth c (MQ below (zQ D J A (fun rv w9 => rv = some (.int (zi res)) ∧ cOB J a_p0 A_p0 w9)) args s 0 0 A) cL_bounds 13 wsL_bounds RL D J A (some .boolean) (yL_bounds.name, []) 0 0 w35 [(9, .int (zi (zor v20 (if ((q30 - q33) + q36) = (0 : Int) then (zshl (1 : Int) v22) else (0 : Int))))), (3, .int (zi (1 : Int))), (12, .int (zi ((q30 - q33) + q36))), (0, .ref a_p0), (1, .int (zi p1)), (2, .int (zi q2)), (4, .int (zi v8)), (5, .int (zi v9)), (6, .int (zi v10)), (7, .int (zi v11)), (8, .int (zi q15)), (10, .int (zi v21)), (11, .int (zi v22))] 132 [.int (zi y9)]) (fun j1 j2 => ?_) ?_
          · refine z_icmp_ge (pc' := 125) (tgt := 130) dL_bounds_122 (by decide) g38 g39 rfl (fun q => ?_) (fun q => ?_)
            · refine z_iload (pc' := 132) 11 dL_bounds_130 rfl rfl ?_
              exact j2 q
            · refine z_iload (pc' := 127) 2 dL_bounds_125 rfl rfl ?_
              refine z_goto (tgt := 132) dL_bounds_127 (by decide) ?_
              exact j1 q
          have g40 : -2147483648 ≤ (if ((q30 - q33) + q36) < v21 then ((q30 - q33) + q36) else v21) ∧ (if ((q30 - q33) + q36) < v21 then ((q30 - q33) + q36) else v21) ≤ 2147483647 := by (by_cases hif : ((q30 - q33) + q36) < v21) <;> first | (rw [if_pos hif]; exact g38) | (rw [if_neg hif]; exact g39)
          refine z_istore (pc' := 134) [(10, .int (zi (if ((q30 - q33) + q36) < v21 then ((q30 - q33) + q36) else v21))), (9, .int (zi (zor v20 (if ((q30 - q33) + q36) = (0 : Int) then (zshl (1 : Int) v22) else (0 : Int))))), (3, .int (zi (1 : Int))), (12, .int (zi ((q30 - q33) + q36))), (0, .ref a_p0), (1, .int (zi p1)), (2, .int (zi q2)), (4, .int (zi v8)), (5, .int (zi v9)), (6, .int (zi v10)), (7, .int (zi v11)), (8, .int (zi q15)), (11, .int (zi v22))] dL_bounds_132 (by decide) rfl rfl ?_
          refine z_iinc (pc' := 137) [(11, .int (zi (v22 + (1 : Int)))), (10, .int (zi (if ((q30 - q33) + q36) < v21 then ((q30 - q33) + q36) else v21))), (9, .int (zi (zor v20 (if ((q30 - q33) + q36) = (0 : Int) then (zshl (1 : Int) v22) else (0 : Int))))), (3, .int (zi (1 : Int))), (12, .int (zi ((q30 - q33) + q36))), (0, .ref a_p0), (1, .int (zi p1)), (2, .int (zi q2)), (4, .int (zi v8)), (5, .int (zi v9)), (6, .int (zi v10)), (7, .int (zi v11)), (8, .int (zi q15))] 12 dL_bounds_134 rfl (by decide) rfl rfl ?_
          refine z_goto (tgt := 48) dL_bounds_137 (by decide) ?_
          refine z_lv [(0, .ref a_p0), (1, .int (zi p1)), (2, .int (zi q2)), (3, .int (zi (1 : Int))), (4, .int (zi v8)), (5, .int (zi v9)), (6, .int (zi v10)), (7, .int (zi v11)), (8, .int (zi q15)), (9, .int (zi (zor v20 (if ((q30 - q33) + q36) = (0 : Int) then (zshl (1 : Int) v22) else (0 : Int))))), (10, .int (zi (if ((q30 - q33) + q36) < v21 then ((q30 - q33) + q36) else v21))), (11, .int (zi (v22 + (1 : Int))))] [5, 6, 7, 3, 8, 9, 10, 11, 12, 2, 1, 0] rfl ?_
          exact ih _ _ _ _ hO35 hsh
set_option maxRecDepth 100000 in
set_option maxHeartbeats 4000000 in
theorem zl_L_bounds_L20 {p : Program} {l : Launch} {e : Env} {s : State} {m : MethodId} {args : Array Value} {below : List Frame} {meth : Method} {c : Code} {A : Nat → Prop} {D : va_G} {J : Nat → ClassId} {F : Nat} {a_p0 : Nat} {A_p0 : zO} {p1 : Int} {q2 : Int} {res : Int} {k : Int → Int → Int → Int → Option (Int)} (hk : ∀ (v8' : Int) (v9' : Int) (v10' : Int) (v11' : Int) (ws_p0' : va_W), cOB J a_p0 A_p0 ws_p0' → k v8' v9' v10' v11' = some res → Z p l e ({ frames := 7, cells := 0, slots := 0, locals := 176 } : Room) s m args below meth c (MQ below (zQ D J A (fun rv w9 => rv = some (.int (zi res)) ∧ cOB J a_p0 A_p0 w9)) args s 0 0 A) cL_bounds 13 wsL_bounds RL D J A (some .boolean) (yL_bounds.name, []) 0 0 ws_p0' [(0, .ref a_p0), (3, .int (zi (1 : Int))), (4, .int (zi v8'))] 356 []) : ∀ (N : Nat) (v8 : Int) (v9 : Int) (v10 : Int) (v11 : Int) (ws_p0 : va_W), cOB J a_p0 A_p0 ws_p0 → sh_L_bounds_L20 F A_p0 p1 q2 k N v8 v9 v10 v11 = some res → Z p l e ({ frames := 7, cells := 0, slots := 0, locals := 176 } : Room) s m args below meth c (MQ below (zQ D J A (fun rv w9 => rv = some (.int (zi res)) ∧ cOB J a_p0 A_p0 w9)) args s 0 0 A) cL_bounds 13 wsL_bounds RL D J A (some .boolean) (yL_bounds.name, []) 0 0 ws_p0 [(0, .ref a_p0), (1, .int (zi p1)), (2, .int (zi q2)), (3, .int (zi (1 : Int))), (4, .int (zi v8)), (5, .int (zi v9)), (6, .int (zi v10)), (7, .int (zi v11))] 20 [] := by
  intro N
  induction N with
  | zero =>
    intro v8 v9 v10 v11 ws_p0 hO_p0 hsh
    exact absurd hsh (by simp [sh_L_bounds_L20])
  | succ N ih =>
    intro v8 v9 v10 v11 ws_p0 hO_p0 hsh
    rw [sh_L_bounds_L20] at hsh
    refine z_iload (pc' := 22) 7 dL_bounds_20 rfl rfl ?_
    refine z_iload_n (pc' := 23) 2 dL_bounds_22 rfl rfl rfl ?_
    have g12 := zkr_p hsh
    replace hsh := zkr_k hsh
    have g13 := zkr_p hsh
    replace hsh := zkr_k hsh
    refine z_icmp_ge (pc' := 26) (tgt := 356) dL_bounds_23 (by decide) g12 g13 rfl (fun q => ?_) (fun q => ?_)
    · replace hsh := zif_f q hsh
      refine z_lv [(0, .ref a_p0), (3, .int (zi (1 : Int))), (4, .int (zi v8))] [0, 3, 4] rfl ?_
      exact hk _ _ _ _ _ hO_p0 hsh
    · replace hsh := zif_t q hsh
      refine z_iload_n (pc' := 27) 3 dL_bounds_26 rfl rfl rfl ?_
      refine z_if_eq (pc' := 30) (tgt := 356) dL_bounds_27 (by decide) (by decide) rfl (fun q => absurd q (by decide)) (fun q => ?_)
      refine z_aload_n (pc' := 31) 0 dL_bounds_30 rfl rfl rfl ?_
      refine z_iload (pc' := 33) 7 dL_bounds_31 rfl rfl ?_
      obtain ⟨q15, h16, hsh⟩ := zbind hsh
      refine z_callSw (pc' := 36) (As := [.ref a_p0, .int (zi v11)]) (rest := []) (wr := []) 2 (oc_remaining_n l D J hO_p0 v11 h16) dL_bounds_33 gL_bounds_L_remaining rfl rfl rfl (by decide +kernel) ⟨Nat.le_of_ble_eq_true rfl, Nat.le_of_ble_eq_true rfl⟩ ⟨Nat.le_of_ble_eq_true rfl, Nat.le_of_ble_eq_true rfl⟩ (z_spl_nil _) rfl rfl (Nat.le_of_ble_eq_true rfl) rfl (fun E w9 hq => hq.elim) (fun rv w14 hq => ?_)
      obtain ⟨rfl, hr14, hO14⟩ := hq
      refine z_ws w14 rfl ?_
      refine z_istore (pc' := 38) [(8, .int (zi q15)), (0, .ref a_p0), (1, .int (zi p1)), (2, .int (zi q2)), (3, .int (zi (1 : Int))), (4, .int (zi v8)), (5, .int (zi v9)), (6, .int (zi v10)), (7, .int (zi v11))] dL_bounds_36 (by decide) rfl rfl ?_
      refine z_iconst (pc' := 39) dL_bounds_38 rfl ?_
      refine z_istore (pc' := 41) [(9, .int (zi (0 : Int))), (8, .int (zi q15)), (0, .ref a_p0), (1, .int (zi p1)), (2, .int (zi q2)), (3, .int (zi (1 : Int))), (4, .int (zi v8)), (5, .int (zi v9)), (6, .int (zi v10)), (7, .int (zi v11))] dL_bounds_39 (by decide) rfl rfl ?_
      refine z_iload (pc' := 43) 1 dL_bounds_41 rfl rfl ?_
      refine z_istore (pc' := 45) [(10, .int (zi q15)), (9, .int (zi (0 : Int))), (8, .int (zi q15)), (0, .ref a_p0), (1, .int (zi p1)), (2, .int (zi q2)), (3, .int (zi (1 : Int))), (4, .int (zi v8)), (5, .int (zi v9)), (6, .int (zi v10)), (7, .int (zi v11))] dL_bounds_43 (by decide) rfl rfl ?_
      refine z_iconst (pc' := 46) dL_bounds_45 rfl ?_
      refine z_istore (pc' := 48) [(11, .int (zi (0 : Int))), (10, .int (zi q15)), (9, .int (zi (0 : Int))), (8, .int (zi q15)), (0, .ref a_p0), (1, .int (zi p1)), (2, .int (zi q2)), (3, .int (zi (1 : Int))), (4, .int (zi v8)), (5, .int (zi v9)), (6, .int (zi v10)), (7, .int (zi v11))] dL_bounds_46 (by decide) rfl rfl ?_
      refine z_lv [(0, .ref a_p0), (1, .int (zi p1)), (2, .int (zi q2)), (3, .int (zi (1 : Int))), (4, .int (zi v8)), (5, .int (zi v9)), (6, .int (zi v10)), (7, .int (zi v11)), (8, .int (zi q15)), (9, .int (zi (0 : Int))), (10, .int (zi q15)), (11, .int (zi (0 : Int)))] [4, 5, 6, 7, 8, 9, 10, 11, 3, 2, 1, 0] rfl ?_
      refine zl_L_bounds_L48 (F := F) (hk := fun v41 v42 v43 ws44_p0 hO44_p0 hsh => ?_) _ _ _ _ _ hO14 hsh
      refine z_aload_n (pc' := 141) 0 dL_bounds_140 rfl rfl rfl ?_
      refine z_iload (pc' := 143) 7 dL_bounds_141 rfl rfl ?_
      obtain ⟨q46, h47, hsh⟩ := zbind hsh
      refine z_callSw (pc' := 146) (As := [.ref a_p0, .int (zi v11)]) (rest := []) (wr := []) 2 (oc_hung_n l D J hO44_p0 v11 h47) dL_bounds_143 gL_bounds_L_hung rfl rfl rfl (by decide +kernel) ⟨Nat.le_of_ble_eq_true rfl, Nat.le_of_ble_eq_true rfl⟩ ⟨Nat.le_of_ble_eq_true rfl, Nat.le_of_ble_eq_true rfl⟩ (z_spl_nil _) rfl rfl (Nat.le_of_ble_eq_true rfl) rfl (fun E w9 hq => hq.elim) (fun rv w45 hq => ?_)
      obtain ⟨rfl, hr45, hO45⟩ := hq
      refine z_ws w45 rfl ?_
      refine z_iconst (pc' := 147) dL_bounds_146 rfl ?_
      refine z_pmin (c := q46 = (1 : Int)) (u := (0 : Int)) (v := v42) (fun y9 => Z p l e ({ frames := 7, cells := 0, slots := 0, locals := 176 } : Room) s m args below meth c (MQ below (zQ D J A (fun rv w9 => rv = some (.int (zi res)) ∧ cOB J a_p0 A_p0 w9)) args s 0 0 A) cL_bounds 13 wsL_bounds RL D J A (some .boolean) (yL_bounds.name, []) 0 0 w45 [(0, .ref a_p0), (1, .int (zi p1)), (2, .int (zi q2)), (3, .int (zi (1 : Int))), (4, .int (zi v8)), (5, .int (zi v9)), (6, .int (zi v10)), (7, .int (zi v11)), (8, .int (zi q15)), (9, .int (zi v41)), (10, .int (zi v42))] 156 [.int (zi y9)]) (fun j1 j2 => ?_) ?_
      · refine z_icmp_ne (pc' := 150) (tgt := 154) dL_bounds_147 (by decide) hr45 (by decide) rfl (fun q => ?_) (fun q => ?_)
        · refine z_iload (pc' := 156) 10 dL_bounds_154 rfl rfl ?_
          exact j2 q
        · refine z_iconst (pc' := 151) dL_bounds_150 rfl ?_
          refine z_goto (tgt := 156) dL_bounds_151 (by decide) ?_
          exact j1 q
      refine z_istore (pc' := 158) [(10, .int (zi (if q46 = (1 : Int) then (0 : Int) else v42))), (0, .ref a_p0), (1, .int (zi p1)), (2, .int (zi q2)), (3, .int (zi (1 : Int))), (4, .int (zi v8)), (5, .int (zi v9)), (6, .int (zi v10)), (7, .int (zi v11)), (8, .int (zi q15)), (9, .int (zi v41))] dL_bounds_156 (by decide) rfl rfl ?_
      refine z_aload_n (pc' := 159) 1 dL_bounds_158 rfl rfl rfl ?_
      refine z_iload (pc' := 161) 8 dL_bounds_159 rfl rfl ?_
      refine z_iconst (pc' := 162) dL_bounds_161 rfl ?_
      obtain ⟨q49, h50, hsh⟩ := zbind hsh
      refine z_callSw (pc' := 165) (As := [.ref a_p0, .int (zi v11), .int (zi (0 : Int))]) (rest := []) (wr := []) 3 (oc_grade_n l D J hO45 v11 (0 : Int) h50) dL_bounds_162 gL_bounds_L_grade rfl rfl rfl (by decide +kernel) ⟨Nat.le_of_ble_eq_true rfl, Nat.le_of_ble_eq_true rfl⟩ ⟨Nat.le_of_ble_eq_true rfl, Nat.le_of_ble_eq_true rfl⟩ (z_spl_nil _) rfl rfl (Nat.le_of_ble_eq_true rfl) rfl (fun E w9 hq => hq.elim) (fun rv w48 hq => ?_)
      obtain ⟨rfl, hr48, hO48⟩ := hq
      refine z_ws w48 rfl ?_
      refine z_istore (pc' := 167) [(11, .int (zi q49)), (10, .int (zi (if q46 = (1 : Int) then (0 : Int) else v42))), (0, .ref a_p0), (1, .int (zi p1)), (2, .int (zi q2)), (3, .int (zi (1 : Int))), (4, .int (zi v8)), (5, .int (zi v9)), (6, .int (zi v10)), (7, .int (zi v11)), (8, .int (zi q15)), (9, .int (zi v41))] dL_bounds_165 (by decide) rfl rfl ?_
      refine z_iload_n (pc' := 168) 5 dL_bounds_167 rfl rfl rfl ?_
      refine z_if_eq (pc' := 171) (tgt := 310) dL_bounds_168 (by decide) (by decide) rfl (fun q => absurd q (by decide)) (fun q => ?_)
      refine z_aload_n (pc' := 172) 2 dL_bounds_171 rfl rfl rfl ?_
      refine z_iload (pc' := 174) 9 dL_bounds_172 rfl rfl ?_
      obtain ⟨q52, h53, hsh⟩ := zbind hsh
      refine z_callSw (pc' := 177) (As := [.ref a_p0, .int (zi v11)]) (rest := []) (wr := []) 2 (oc_blockers_n l D J hO48 v11 h53) dL_bounds_174 gL_bounds_L_blockers rfl rfl rfl (by decide +kernel) ⟨Nat.le_of_ble_eq_true rfl, Nat.le_of_ble_eq_true rfl⟩ ⟨Nat.le_of_ble_eq_true rfl, Nat.le_of_ble_eq_true rfl⟩ (z_spl_nil _) rfl rfl (Nat.le_of_ble_eq_true rfl) rfl (fun E w9 hq => hq.elim) (fun rv w51 hq => ?_)
      obtain ⟨rfl, hr51, hO51⟩ := hq
      refine z_ws w51 rfl ?_
      refine z_iload (pc' := 179) 11 dL_bounds_177 rfl rfl ?_
      have g54 := zkr_p hsh
      replace hsh := zkr_k hsh
      refine z_icmp_ne (pc' := 182) (tgt := 310) dL_bounds_179 (by decide) hr51 g54 rfl (fun q => ?_) (fun q => ?_)
      · replace hsh := zif_f q hsh
        cases hsh
      · replace hsh := zif_t q hsh
        refine z_aload_n (pc' := 183) 2 dL_bounds_182 rfl rfl rfl ?_
        refine z_iload (pc' := 185) 9 dL_bounds_183 rfl rfl ?_
        obtain ⟨q56, h57, hsh⟩ := zbind hsh
        refine z_callSw (pc' := 188) (As := [.ref a_p0, .int (zi v11)]) (rest := []) (wr := []) 2 (oc_slack_n l D J hO51 v11 h57) dL_bounds_185 gL_bounds_L_slack rfl rfl rfl (by decide +kernel) ⟨Nat.le_of_ble_eq_true rfl, Nat.le_of_ble_eq_true rfl⟩ ⟨Nat.le_of_ble_eq_true rfl, Nat.le_of_ble_eq_true rfl⟩ (z_spl_nil _) rfl rfl (Nat.le_of_ble_eq_true rfl) rfl (fun E w9 hq => hq.elim) (fun rv w55 hq => ?_)
        obtain ⟨rfl, hr55, hO55⟩ := hq
        refine z_ws w55 rfl ?_
        refine z_iload (pc' := 190) 1 dL_bounds_188 rfl rfl ?_
        have g58 := zkr_p hsh
        replace hsh := zkr_k hsh
        refine z_icmp_ne (pc' := 193) (tgt := 310) dL_bounds_190 (by decide) hr55 g58 rfl (fun q => ?_) (fun q => ?_)
        · replace hsh := zif_f q hsh
          cases hsh
        · replace hsh := zif_t q hsh
          refine z_aload_n (pc' := 194) 2 dL_bounds_193 rfl rfl rfl ?_
          refine z_iload (pc' := 196) 9 dL_bounds_194 rfl rfl ?_
          obtain ⟨q60, h61, hsh⟩ := zbind hsh
          refine z_callSw (pc' := 199) (As := [.ref a_p0, .int (zi v11)]) (rest := []) (wr := []) 2 (oc_ready_n l D J hO55 v11 h61) dL_bounds_196 gL_bounds_L_ready rfl rfl rfl (by decide +kernel) ⟨Nat.le_of_ble_eq_true rfl, Nat.le_of_ble_eq_true rfl⟩ ⟨Nat.le_of_ble_eq_true rfl, Nat.le_of_ble_eq_true rfl⟩ (z_spl_nil _) rfl rfl (Nat.le_of_ble_eq_true rfl) rfl (fun E w9 hq => hq.elim) (fun rv w59 hq => ?_)
          obtain ⟨rfl, hr59, hO59⟩ := hq
          refine z_ws w59 rfl ?_
          refine z_iconst (pc' := 200) dL_bounds_199 rfl ?_
          refine z_pmin (c := q60 = (1 : Int)) (u := (1 : Int)) (v := (0 : Int)) (fun y9 => Z p l e ({ frames := 7, cells := 0, slots := 0, locals := 176 } : Room) s m args below meth c (MQ below (zQ D J A (fun rv w9 => rv = some (.int (zi res)) ∧ cOB J a_p0 A_p0 w9)) args s 0 0 A) cL_bounds 13 wsL_bounds RL D J A (some .boolean) (yL_bounds.name, []) 0 0 w59 [(11, .int (zi q49)), (10, .int (zi (if q46 = (1 : Int) then (0 : Int) else v42))), (0, .ref a_p0), (1, .int (zi p1)), (2, .int (zi q2)), (3, .int (zi (1 : Int))), (4, .int (zi v8)), (5, .int (zi v9)), (6, .int (zi v10)), (7, .int (zi v11)), (8, .int (zi q15)), (9, .int (zi v41))] 208 [.int (zi y9)]) (fun j1 j2 => ?_) ?_
          · refine z_icmp_ne (pc' := 203) (tgt := 207) dL_bounds_200 (by decide) hr59 (by decide) rfl (fun q => ?_) (fun q => ?_)
            · refine z_iconst (pc' := 208) dL_bounds_207 rfl ?_
              exact j2 q
            · refine z_iconst (pc' := 204) dL_bounds_203 rfl ?_
              refine z_goto (tgt := 208) dL_bounds_204 (by decide) ?_
              exact j1 q
          have g62 : -2147483648 ≤ (if q60 = (1 : Int) then (1 : Int) else (0 : Int)) ∧ (if q60 = (1 : Int) then (1 : Int) else (0 : Int)) ≤ 2147483647 := by (by_cases hif : q60 = (1 : Int)) <;> first | (rw [if_pos hif]; exact (by decide)) | (rw [if_neg hif]; exact (by decide))
          refine z_iload (pc' := 210) 1 dL_bounds_208 rfl rfl ?_
          refine z_pmin (c := (0 : Int) < (if q46 = (1 : Int) then (0 : Int) else v42)) (u := (1 : Int)) (v := (0 : Int)) (fun y9 => Z p l e ({ frames := 7, cells := 0, slots := 0, locals := 176 } : Room) s m args below meth c (MQ below (zQ D J A (fun rv w9 => rv = some (.int (zi res)) ∧ cOB J a_p0 A_p0 w9)) args s 0 0 A) cL_bounds 13 wsL_bounds RL D J A (some .boolean) (yL_bounds.name, []) 0 0 w59 [(11, .int (zi q49)), (10, .int (zi (if q46 = (1 : Int) then (0 : Int) else v42))), (0, .ref a_p0), (1, .int (zi p1)), (2, .int (zi q2)), (3, .int (zi (1 : Int))), (4, .int (zi v8)), (5, .int (zi v9)), (6, .int (zi v10)), (7, .int (zi v11)), (8, .int (zi q15)), (9, .int (zi v41))] 218 [.int (zi y9), .int (zi (if q60 = (1 : Int) then (1 : Int) else (0 : Int)))]) (fun j1 j2 => ?_) ?_
          · refine z_if_le (pc' := 213) (tgt := 217) dL_bounds_210 (by decide) g58 rfl (fun q => ?_) (fun q => ?_)
            · refine z_iconst (pc' := 218) dL_bounds_217 rfl ?_
              exact j2 q
            · refine z_iconst (pc' := 214) dL_bounds_213 rfl ?_
              refine z_goto (tgt := 218) dL_bounds_214 (by decide) ?_
              exact j1 q
          have g63 : -2147483648 ≤ (if (0 : Int) < (if q46 = (1 : Int) then (0 : Int) else v42) then (1 : Int) else (0 : Int)) ∧ (if (0 : Int) < (if q46 = (1 : Int) then (0 : Int) else v42) then (1 : Int) else (0 : Int)) ≤ 2147483647 := by (by_cases hif : (0 : Int) < (if q46 = (1 : Int) then (0 : Int) else v42)) <;> first | (rw [if_pos hif]; exact (by decide)) | (rw [if_neg hif]; exact (by decide))
          refine z_icmp_ne (pc' := 221) (tgt := 310) dL_bounds_218 (by decide) g62 g63 rfl (fun q => ?_) (fun q => ?_)
          · replace hsh := zif_f q hsh
            cases hsh
          · replace hsh := zif_t q hsh
            refine z_iload (pc' := 223) 0 dL_bounds_221 rfl rfl ?_
            refine z_bipush (pc' := 225) dL_bounds_223 (by decide) rfl ?_
            refine z_pmin (c := q49 = (-9 : Int)) (u := (1 : Int)) (v := (0 : Int)) (fun y9 => Z p l e ({ frames := 7, cells := 0, slots := 0, locals := 176 } : Room) s m args below meth c (MQ below (zQ D J A (fun rv w9 => rv = some (.int (zi res)) ∧ cOB J a_p0 A_p0 w9)) args s 0 0 A) cL_bounds 13 wsL_bounds RL D J A (some .boolean) (yL_bounds.name, []) 0 0 w59 [(11, .int (zi q49)), (10, .int (zi (if q46 = (1 : Int) then (0 : Int) else v42))), (0, .ref a_p0), (1, .int (zi p1)), (2, .int (zi q2)), (3, .int (zi (1 : Int))), (4, .int (zi v8)), (5, .int (zi v9)), (6, .int (zi v10)), (7, .int (zi v11)), (8, .int (zi q15)), (9, .int (zi v41))] 233 [.int (zi y9)]) (fun j1 j2 => ?_) ?_
            · refine z_icmp_ne (pc' := 228) (tgt := 232) dL_bounds_225 (by decide) hr48 (by decide) rfl (fun q => ?_) (fun q => ?_)
              · refine z_iconst (pc' := 233) dL_bounds_232 rfl ?_
                exact j2 q
              · refine z_iconst (pc' := 229) dL_bounds_228 rfl ?_
                refine z_goto (tgt := 233) dL_bounds_229 (by decide) ?_
                exact j1 q
            have g64 : -2147483648 ≤ (if q49 = (-9 : Int) then (1 : Int) else (0 : Int)) ∧ (if q49 = (-9 : Int) then (1 : Int) else (0 : Int)) ≤ 2147483647 := by (by_cases hif : q49 = (-9 : Int)) <;> first | (rw [if_pos hif]; exact (by decide)) | (rw [if_neg hif]; exact (by decide))
            refine z_iload (pc' := 235) 10 dL_bounds_233 rfl rfl ?_
            refine z_pmin (c := q15 = (0 : Int)) (u := (1 : Int)) (v := (0 : Int)) (fun y9 => Z p l e ({ frames := 7, cells := 0, slots := 0, locals := 176 } : Room) s m args below meth c (MQ below (zQ D J A (fun rv w9 => rv = some (.int (zi res)) ∧ cOB J a_p0 A_p0 w9)) args s 0 0 A) cL_bounds 13 wsL_bounds RL D J A (some .boolean) (yL_bounds.name, []) 0 0 w59 [(11, .int (zi q49)), (10, .int (zi (if q46 = (1 : Int) then (0 : Int) else v42))), (0, .ref a_p0), (1, .int (zi p1)), (2, .int (zi q2)), (3, .int (zi (1 : Int))), (4, .int (zi v8)), (5, .int (zi v9)), (6, .int (zi v10)), (7, .int (zi v11)), (8, .int (zi q15)), (9, .int (zi v41))] 243 [.int (zi y9), .int (zi (if q49 = (-9 : Int) then (1 : Int) else (0 : Int)))]) (fun j1 j2 => ?_) ?_
            · refine z_if_ne (pc' := 238) (tgt := 242) dL_bounds_235 (by decide) hr14 rfl (fun q => ?_) (fun q => ?_)
              · refine z_iconst (pc' := 243) dL_bounds_242 rfl ?_
                exact j2 q
              · refine z_iconst (pc' := 239) dL_bounds_238 rfl ?_
                refine z_goto (tgt := 243) dL_bounds_239 (by decide) ?_
                exact j1 q
            have g65 : -2147483648 ≤ (if q15 = (0 : Int) then (1 : Int) else (0 : Int)) ∧ (if q15 = (0 : Int) then (1 : Int) else (0 : Int)) ≤ 2147483647 := by (by_cases hif : q15 = (0 : Int)) <;> first | (rw [if_pos hif]; exact (by decide)) | (rw [if_neg hif]; exact (by decide))
            refine z_icmp_ne (pc' := 246) (tgt := 310) dL_bounds_243 (by decide) g64 g65 rfl (fun q => ?_) (fun q => ?_)
            · replace hsh := zif_f q hsh
              cases hsh
            · replace hsh := zif_t q hsh
              refine z_aload_n (pc' := 247) 2 dL_bounds_246 rfl rfl rfl ?_
              refine z_iload (pc' := 249) 9 dL_bounds_247 rfl rfl ?_
              obtain ⟨q67, h68, hsh⟩ := zbind hsh
              refine z_callSw (pc' := 252) (As := [.ref a_p0, .int (zi v11)]) (rest := []) (wr := []) 2 (oc_slices_n l D J hO59 v11 h68) dL_bounds_249 gL_bounds_L_slices rfl rfl rfl (by decide +kernel) ⟨Nat.le_of_ble_eq_true rfl, Nat.le_of_ble_eq_true rfl⟩ ⟨Nat.le_of_ble_eq_true rfl, Nat.le_of_ble_eq_true rfl⟩ (z_spl_nil _) rfl rfl (Nat.le_of_ble_eq_true rfl) rfl (fun E w9 hq => hq.elim) (fun rv w66 hq => ?_)
              obtain ⟨rfl, hr66, hO66⟩ := hq
              refine z_ws w66 rfl ?_
              refine z_pmin (c := (0 : Int) < q67) (u := (1 : Int)) (v := (0 : Int)) (fun y9 => Z p l e ({ frames := 7, cells := 0, slots := 0, locals := 176 } : Room) s m args below meth c (MQ below (zQ D J A (fun rv w9 => rv = some (.int (zi res)) ∧ cOB J a_p0 A_p0 w9)) args s 0 0 A) cL_bounds 13 wsL_bounds RL D J A (some .boolean) (yL_bounds.name, []) 0 0 w66 [(11, .int (zi q49)), (10, .int (zi (if q46 = (1 : Int) then (0 : Int) else v42))), (0, .ref a_p0), (1, .int (zi p1)), (2, .int (zi q2)), (3, .int (zi (1 : Int))), (4, .int (zi v8)), (5, .int (zi v9)), (6, .int (zi v10)), (7, .int (zi v11)), (8, .int (zi q15)), (9, .int (zi v41))] 260 [.int (zi y9)]) (fun j1 j2 => ?_) ?_
              · refine z_if_le (pc' := 255) (tgt := 259) dL_bounds_252 (by decide) hr66 rfl (fun q => ?_) (fun q => ?_)
                · refine z_iconst (pc' := 260) dL_bounds_259 rfl ?_
                  exact j2 q
                · refine z_iconst (pc' := 256) dL_bounds_255 rfl ?_
                  refine z_goto (tgt := 260) dL_bounds_256 (by decide) ?_
                  exact j1 q
              have g69 : -2147483648 ≤ (if (0 : Int) < q67 then (1 : Int) else (0 : Int)) ∧ (if (0 : Int) < q67 then (1 : Int) else (0 : Int)) ≤ 2147483647 := by (by_cases hif : (0 : Int) < q67) <;> first | (rw [if_pos hif]; exact (by decide)) | (rw [if_neg hif]; exact (by decide))
              refine z_iload (pc' := 262) 10 dL_bounds_260 rfl rfl ?_
              refine z_pmin (c := (0 : Int) < q15) (u := (1 : Int)) (v := (0 : Int)) (fun y9 => Z p l e ({ frames := 7, cells := 0, slots := 0, locals := 176 } : Room) s m args below meth c (MQ below (zQ D J A (fun rv w9 => rv = some (.int (zi res)) ∧ cOB J a_p0 A_p0 w9)) args s 0 0 A) cL_bounds 13 wsL_bounds RL D J A (some .boolean) (yL_bounds.name, []) 0 0 w66 [(11, .int (zi q49)), (10, .int (zi (if q46 = (1 : Int) then (0 : Int) else v42))), (0, .ref a_p0), (1, .int (zi p1)), (2, .int (zi q2)), (3, .int (zi (1 : Int))), (4, .int (zi v8)), (5, .int (zi v9)), (6, .int (zi v10)), (7, .int (zi v11)), (8, .int (zi q15)), (9, .int (zi v41))] 270 [.int (zi y9), .int (zi (if (0 : Int) < q67 then (1 : Int) else (0 : Int)))]) (fun j1 j2 => ?_) ?_
              · refine z_if_le (pc' := 265) (tgt := 269) dL_bounds_262 (by decide) hr14 rfl (fun q => ?_) (fun q => ?_)
                · refine z_iconst (pc' := 270) dL_bounds_269 rfl ?_
                  exact j2 q
                · refine z_iconst (pc' := 266) dL_bounds_265 rfl ?_
                  refine z_goto (tgt := 270) dL_bounds_266 (by decide) ?_
                  exact j1 q
              have g70 : -2147483648 ≤ (if (0 : Int) < q15 then (1 : Int) else (0 : Int)) ∧ (if (0 : Int) < q15 then (1 : Int) else (0 : Int)) ≤ 2147483647 := by (by_cases hif : (0 : Int) < q15) <;> first | (rw [if_pos hif]; exact (by decide)) | (rw [if_neg hif]; exact (by decide))
              refine z_icmp_ne (pc' := 273) (tgt := 310) dL_bounds_270 (by decide) g69 g70 rfl (fun q => ?_) (fun q => ?_)
              · replace hsh := zif_f q hsh
                cases hsh
              · replace hsh := zif_t q hsh
                refine z_iload (pc' := 275) 10 dL_bounds_273 rfl rfl ?_
                refine z_if_eq (pc' := 278) (tgt := 293) dL_bounds_275 (by decide) hr14 rfl (fun q => ?_) (fun q => ?_)
                · replace hsh := zif_t q hsh
                  refine z_aload_n (pc' := 294) 2 dL_bounds_293 rfl rfl rfl ?_
                  refine z_iload (pc' := 296) 9 dL_bounds_294 rfl rfl ?_
                  refine z_iload (pc' := 298) 10 dL_bounds_296 rfl rfl ?_
                  obtain ⟨q72, h73, hsh⟩ := zbind hsh
                  refine z_callSw (pc' := 301) (As := [.ref a_p0, .int (zi v11), .int (zi q15)]) (rest := []) (wr := []) 3 (oc_grade_n l D J hO66 v11 q15 h73) dL_bounds_298 gL_bounds_L_grade rfl rfl rfl (by decide +kernel) ⟨Nat.le_of_ble_eq_true rfl, Nat.le_of_ble_eq_true rfl⟩ ⟨Nat.le_of_ble_eq_true rfl, Nat.le_of_ble_eq_true rfl⟩ (z_spl_nil _) rfl rfl (Nat.le_of_ble_eq_true rfl) rfl (fun E w9 hq => hq.elim) (fun rv w71 hq => ?_)
                  obtain ⟨rfl, hr71, hO71⟩ := hq
                  refine z_ws w71 rfl ?_
                  refine z_bipush (pc' := 303) dL_bounds_301 (by decide) rfl ?_
                  refine z_icmp_ne (pc' := 306) (tgt := 310) dL_bounds_303 (by decide) hr71 (by decide) rfl (fun q => ?_) (fun q => ?_)
                  · replace hsh := zif_f q hsh
                    cases hsh
                  · replace hsh := zif_t q hsh
                    refine z_iconst (pc' := 307) dL_bounds_306 rfl ?_
                    refine z_goto (tgt := 311) dL_bounds_307 (by decide) ?_
                    refine z_istore_n (pc' := 312) [(3, .int (zi (1 : Int))), (11, .int (zi q49)), (10, .int (zi (if q46 = (1 : Int) then (0 : Int) else v42))), (0, .ref a_p0), (1, .int (zi p1)), (2, .int (zi q2)), (4, .int (zi v8)), (5, .int (zi v9)), (6, .int (zi v10)), (7, .int (zi v11)), (8, .int (zi q15)), (9, .int (zi v41))] dL_bounds_311 rfl (by decide) rfl rfl ?_
                    refine z_iload (pc' := 314) 2 dL_bounds_312 rfl rfl ?_
                    refine z_iload (pc' := 316) 7 dL_bounds_314 rfl rfl ?_
                    have g74 := zkr_p hsh
                    replace hsh := zkr_k hsh
                    refine z_icmp_gt (pc' := 319) (tgt := 338) dL_bounds_316 (by decide) g58 g74 rfl (fun q => ?_) (fun q => ?_)
                    · replace hsh := zif_t q hsh
                      refine z_iload (pc' := 340) 9 dL_bounds_338 rfl rfl ?_
                      refine z_istore (pc' := 342) [(4, .int (zi v11)), (3, .int (zi (1 : Int))), (11, .int (zi q49)), (10, .int (zi (if q46 = (1 : Int) then (0 : Int) else v42))), (0, .ref a_p0), (1, .int (zi p1)), (2, .int (zi q2)), (5, .int (zi v9)), (6, .int (zi v10)), (7, .int (zi v11)), (8, .int (zi q15)), (9, .int (zi v41))] dL_bounds_340 (by decide) rfl rfl ?_
                      refine z_iload (pc' := 344) 3 dL_bounds_342 rfl rfl ?_
                      refine z_istore (pc' := 346) [(5, .int (zi (if q46 = (1 : Int) then (0 : Int) else v42))), (4, .int (zi v11)), (3, .int (zi (1 : Int))), (11, .int (zi q49)), (10, .int (zi (if q46 = (1 : Int) then (0 : Int) else v42))), (0, .ref a_p0), (1, .int (zi p1)), (2, .int (zi q2)), (6, .int (zi v10)), (7, .int (zi v11)), (8, .int (zi q15)), (9, .int (zi v41))] dL_bounds_344 (by decide) rfl rfl ?_
                      refine z_iload (pc' := 348) 3 dL_bounds_346 rfl rfl ?_
                      refine z_istore (pc' := 350) [(6, .int (zi q49)), (5, .int (zi (if q46 = (1 : Int) then (0 : Int) else v42))), (4, .int (zi v11)), (3, .int (zi (1 : Int))), (11, .int (zi q49)), (10, .int (zi (if q46 = (1 : Int) then (0 : Int) else v42))), (0, .ref a_p0), (1, .int (zi p1)), (2, .int (zi q2)), (7, .int (zi v11)), (8, .int (zi q15)), (9, .int (zi v41))] dL_bounds_348 (by decide) rfl rfl ?_
                      refine z_iinc (pc' := 353) [(7, .int (zi (v11 + (1 : Int)))), (6, .int (zi q49)), (5, .int (zi (if q46 = (1 : Int) then (0 : Int) else v42))), (4, .int (zi v11)), (3, .int (zi (1 : Int))), (11, .int (zi q49)), (10, .int (zi (if q46 = (1 : Int) then (0 : Int) else v42))), (0, .ref a_p0), (1, .int (zi p1)), (2, .int (zi q2)), (8, .int (zi q15)), (9, .int (zi v41))] 9 dL_bounds_350 rfl (by decide) rfl rfl ?_
                      refine z_goto (tgt := 20) dL_bounds_353 (by decide) ?_
                      refine z_lv [(0, .ref a_p0), (1, .int (zi p1)), (2, .int (zi q2)), (3, .int (zi (1 : Int))), (4, .int (zi v11)), (5, .int (zi (if q46 = (1 : Int) then (0 : Int) else v42))), (6, .int (zi q49)), (7, .int (zi (v11 + (1 : Int))))] [7, 8, 9, 4, 3, 2, 1, 0] rfl ?_
                      exact ih _ _ _ _ _ hO71 hsh
                    · replace hsh := zif_f q hsh
                      refine z_iload (pc' := 321) 2 dL_bounds_319 rfl rfl ?_
                      refine z_if_le (pc' := 324) (tgt := 350) dL_bounds_321 (by decide) g58 rfl (fun q => ?_) (fun q => ?_)
                      · replace hsh := zif_f q hsh
                        refine z_iinc (pc' := 353) [(7, .int (zi (v11 + (1 : Int)))), (3, .int (zi (1 : Int))), (11, .int (zi q49)), (10, .int (zi (if q46 = (1 : Int) then (0 : Int) else v42))), (0, .ref a_p0), (1, .int (zi p1)), (2, .int (zi q2)), (4, .int (zi v8)), (5, .int (zi v9)), (6, .int (zi v10)), (8, .int (zi q15)), (9, .int (zi v41))] 9 dL_bounds_350 rfl (by decide) rfl rfl ?_
                        refine z_goto (tgt := 20) dL_bounds_353 (by decide) ?_
                        refine z_lv [(0, .ref a_p0), (1, .int (zi p1)), (2, .int (zi q2)), (3, .int (zi (1 : Int))), (4, .int (zi v8)), (5, .int (zi v9)), (6, .int (zi v10)), (7, .int (zi (v11 + (1 : Int))))] [4, 5, 6, 1, 7, 8, 9, 0] rfl ?_
                        exact ih _ _ _ _ _ hO71 hsh
                      · replace hsh := zif_t q hsh
                        refine z_iload (pc' := 326) 2 dL_bounds_324 rfl rfl ?_
                        refine z_iload (pc' := 328) 7 dL_bounds_326 rfl rfl ?_
                        refine z_icmp_ne (pc' := 331) (tgt := 350) dL_bounds_328 (by decide) g58 g74 rfl (fun q => ?_) (fun q => ?_)
                        · replace hsh := zif_f q hsh
                          refine z_iinc (pc' := 353) [(7, .int (zi (v11 + (1 : Int)))), (3, .int (zi (1 : Int))), (11, .int (zi q49)), (10, .int (zi (if q46 = (1 : Int) then (0 : Int) else v42))), (0, .ref a_p0), (1, .int (zi p1)), (2, .int (zi q2)), (4, .int (zi v8)), (5, .int (zi v9)), (6, .int (zi v10)), (8, .int (zi q15)), (9, .int (zi v41))] 9 dL_bounds_350 rfl (by decide) rfl rfl ?_
                          refine z_goto (tgt := 20) dL_bounds_353 (by decide) ?_
                          refine z_lv [(0, .ref a_p0), (1, .int (zi p1)), (2, .int (zi q2)), (3, .int (zi (1 : Int))), (4, .int (zi v8)), (5, .int (zi v9)), (6, .int (zi v10)), (7, .int (zi (v11 + (1 : Int))))] [4, 5, 6, 1, 7, 8, 9, 0] rfl ?_
                          exact ih _ _ _ _ _ hO71 hsh
                        · replace hsh := zif_t q hsh
                          refine z_iload (pc' := 333) 1 dL_bounds_331 rfl rfl ?_
                          refine z_iload (pc' := 335) 8 dL_bounds_333 rfl rfl ?_
                          have g75 := zkr_p hsh
                          replace hsh := zkr_k hsh
                          refine z_icmp_le (pc' := 338) (tgt := 350) dL_bounds_335 (by decide) hr48 g75 rfl (fun q => ?_) (fun q => ?_)
                          · replace hsh := zif_f q hsh
                            refine z_iinc (pc' := 353) [(7, .int (zi (v11 + (1 : Int)))), (3, .int (zi (1 : Int))), (11, .int (zi q49)), (10, .int (zi (if q46 = (1 : Int) then (0 : Int) else v42))), (0, .ref a_p0), (1, .int (zi p1)), (2, .int (zi q2)), (4, .int (zi v8)), (5, .int (zi v9)), (6, .int (zi v10)), (8, .int (zi q15)), (9, .int (zi v41))] 9 dL_bounds_350 rfl (by decide) rfl rfl ?_
                            refine z_goto (tgt := 20) dL_bounds_353 (by decide) ?_
                            refine z_lv [(0, .ref a_p0), (1, .int (zi p1)), (2, .int (zi q2)), (3, .int (zi (1 : Int))), (4, .int (zi v8)), (5, .int (zi v9)), (6, .int (zi v10)), (7, .int (zi (v11 + (1 : Int))))] [4, 5, 6, 1, 7, 8, 9, 0] rfl ?_
                            exact ih _ _ _ _ _ hO71 hsh
                          · replace hsh := zif_t q hsh
                            refine z_iload (pc' := 340) 9 dL_bounds_338 rfl rfl ?_
                            refine z_istore (pc' := 342) [(4, .int (zi v11)), (3, .int (zi (1 : Int))), (11, .int (zi q49)), (10, .int (zi (if q46 = (1 : Int) then (0 : Int) else v42))), (0, .ref a_p0), (1, .int (zi p1)), (2, .int (zi q2)), (5, .int (zi v9)), (6, .int (zi v10)), (7, .int (zi v11)), (8, .int (zi q15)), (9, .int (zi v41))] dL_bounds_340 (by decide) rfl rfl ?_
                            refine z_iload (pc' := 344) 3 dL_bounds_342 rfl rfl ?_
                            refine z_istore (pc' := 346) [(5, .int (zi (if q46 = (1 : Int) then (0 : Int) else v42))), (4, .int (zi v11)), (3, .int (zi (1 : Int))), (11, .int (zi q49)), (10, .int (zi (if q46 = (1 : Int) then (0 : Int) else v42))), (0, .ref a_p0), (1, .int (zi p1)), (2, .int (zi q2)), (6, .int (zi v10)), (7, .int (zi v11)), (8, .int (zi q15)), (9, .int (zi v41))] dL_bounds_344 (by decide) rfl rfl ?_
                            refine z_iload (pc' := 348) 3 dL_bounds_346 rfl rfl ?_
                            refine z_istore (pc' := 350) [(6, .int (zi q49)), (5, .int (zi (if q46 = (1 : Int) then (0 : Int) else v42))), (4, .int (zi v11)), (3, .int (zi (1 : Int))), (11, .int (zi q49)), (10, .int (zi (if q46 = (1 : Int) then (0 : Int) else v42))), (0, .ref a_p0), (1, .int (zi p1)), (2, .int (zi q2)), (7, .int (zi v11)), (8, .int (zi q15)), (9, .int (zi v41))] dL_bounds_348 (by decide) rfl rfl ?_
                            refine z_iinc (pc' := 353) [(7, .int (zi (v11 + (1 : Int)))), (6, .int (zi q49)), (5, .int (zi (if q46 = (1 : Int) then (0 : Int) else v42))), (4, .int (zi v11)), (3, .int (zi (1 : Int))), (11, .int (zi q49)), (10, .int (zi (if q46 = (1 : Int) then (0 : Int) else v42))), (0, .ref a_p0), (1, .int (zi p1)), (2, .int (zi q2)), (8, .int (zi q15)), (9, .int (zi v41))] 9 dL_bounds_350 rfl (by decide) rfl rfl ?_
                            refine z_goto (tgt := 20) dL_bounds_353 (by decide) ?_
                            refine z_lv [(0, .ref a_p0), (1, .int (zi p1)), (2, .int (zi q2)), (3, .int (zi (1 : Int))), (4, .int (zi v11)), (5, .int (zi (if q46 = (1 : Int) then (0 : Int) else v42))), (6, .int (zi q49)), (7, .int (zi (v11 + (1 : Int))))] [7, 8, 9, 4, 3, 2, 1, 0] rfl ?_
                            exact ih _ _ _ _ _ hO71 hsh
                · replace hsh := zif_f q hsh
                  refine z_aload_n (pc' := 279) 2 dL_bounds_278 rfl rfl rfl ?_
                  refine z_iload (pc' := 281) 9 dL_bounds_279 rfl rfl ?_
                  refine z_iload (pc' := 283) 10 dL_bounds_281 rfl rfl ?_
                  refine z_iconst (pc' := 284) dL_bounds_283 rfl ?_
                  refine z_isub (pc' := 285) dL_bounds_284 rfl ?_
                  obtain ⟨q77, h78, hsh⟩ := zbind hsh
                  refine z_callSw (pc' := 288) (As := [.ref a_p0, .int (zi v11), .int (zi (q15 - (1 : Int)))]) (rest := []) (wr := []) 3 (oc_grade_n l D J hO66 v11 (q15 - (1 : Int)) h78) dL_bounds_285 gL_bounds_L_grade rfl rfl rfl (by decide +kernel) ⟨Nat.le_of_ble_eq_true rfl, Nat.le_of_ble_eq_true rfl⟩ ⟨Nat.le_of_ble_eq_true rfl, Nat.le_of_ble_eq_true rfl⟩ (z_spl_nil _) rfl rfl (Nat.le_of_ble_eq_true rfl) rfl (fun E w9 hq => hq.elim) (fun rv w76 hq => ?_)
                  obtain ⟨rfl, hr76, hO76⟩ := hq
                  refine z_ws w76 rfl ?_
                  refine z_bipush (pc' := 290) dL_bounds_288 (by decide) rfl ?_
                  refine z_icmp_eq (pc' := 293) (tgt := 310) dL_bounds_290 (by decide) hr76 (by decide) rfl (fun q => ?_) (fun q => ?_)
                  · replace hsh := zif_t q hsh
                    cases hsh
                  · replace hsh := zif_f q hsh
                    refine z_aload_n (pc' := 294) 2 dL_bounds_293 rfl rfl rfl ?_
                    refine z_iload (pc' := 296) 9 dL_bounds_294 rfl rfl ?_
                    refine z_iload (pc' := 298) 10 dL_bounds_296 rfl rfl ?_
                    obtain ⟨q80, h81, hsh⟩ := zbind hsh
                    refine z_callSw (pc' := 301) (As := [.ref a_p0, .int (zi v11), .int (zi q15)]) (rest := []) (wr := []) 3 (oc_grade_n l D J hO76 v11 q15 h81) dL_bounds_298 gL_bounds_L_grade rfl rfl rfl (by decide +kernel) ⟨Nat.le_of_ble_eq_true rfl, Nat.le_of_ble_eq_true rfl⟩ ⟨Nat.le_of_ble_eq_true rfl, Nat.le_of_ble_eq_true rfl⟩ (z_spl_nil _) rfl rfl (Nat.le_of_ble_eq_true rfl) rfl (fun E w9 hq => hq.elim) (fun rv w79 hq => ?_)
                    obtain ⟨rfl, hr79, hO79⟩ := hq
                    refine z_ws w79 rfl ?_
                    refine z_bipush (pc' := 303) dL_bounds_301 (by decide) rfl ?_
                    refine z_icmp_ne (pc' := 306) (tgt := 310) dL_bounds_303 (by decide) hr79 (by decide) rfl (fun q => ?_) (fun q => ?_)
                    · replace hsh := zif_f q hsh
                      cases hsh
                    · replace hsh := zif_t q hsh
                      refine z_iconst (pc' := 307) dL_bounds_306 rfl ?_
                      refine z_goto (tgt := 311) dL_bounds_307 (by decide) ?_
                      refine z_istore_n (pc' := 312) [(3, .int (zi (1 : Int))), (11, .int (zi q49)), (10, .int (zi (if q46 = (1 : Int) then (0 : Int) else v42))), (0, .ref a_p0), (1, .int (zi p1)), (2, .int (zi q2)), (4, .int (zi v8)), (5, .int (zi v9)), (6, .int (zi v10)), (7, .int (zi v11)), (8, .int (zi q15)), (9, .int (zi v41))] dL_bounds_311 rfl (by decide) rfl rfl ?_
                      refine z_iload (pc' := 314) 2 dL_bounds_312 rfl rfl ?_
                      refine z_iload (pc' := 316) 7 dL_bounds_314 rfl rfl ?_
                      have g82 := zkr_p hsh
                      replace hsh := zkr_k hsh
                      refine z_icmp_gt (pc' := 319) (tgt := 338) dL_bounds_316 (by decide) g58 g82 rfl (fun q => ?_) (fun q => ?_)
                      · replace hsh := zif_t q hsh
                        refine z_iload (pc' := 340) 9 dL_bounds_338 rfl rfl ?_
                        refine z_istore (pc' := 342) [(4, .int (zi v11)), (3, .int (zi (1 : Int))), (11, .int (zi q49)), (10, .int (zi (if q46 = (1 : Int) then (0 : Int) else v42))), (0, .ref a_p0), (1, .int (zi p1)), (2, .int (zi q2)), (5, .int (zi v9)), (6, .int (zi v10)), (7, .int (zi v11)), (8, .int (zi q15)), (9, .int (zi v41))] dL_bounds_340 (by decide) rfl rfl ?_
                        refine z_iload (pc' := 344) 3 dL_bounds_342 rfl rfl ?_
                        refine z_istore (pc' := 346) [(5, .int (zi (if q46 = (1 : Int) then (0 : Int) else v42))), (4, .int (zi v11)), (3, .int (zi (1 : Int))), (11, .int (zi q49)), (10, .int (zi (if q46 = (1 : Int) then (0 : Int) else v42))), (0, .ref a_p0), (1, .int (zi p1)), (2, .int (zi q2)), (6, .int (zi v10)), (7, .int (zi v11)), (8, .int (zi q15)), (9, .int (zi v41))] dL_bounds_344 (by decide) rfl rfl ?_
                        refine z_iload (pc' := 348) 3 dL_bounds_346 rfl rfl ?_
                        refine z_istore (pc' := 350) [(6, .int (zi q49)), (5, .int (zi (if q46 = (1 : Int) then (0 : Int) else v42))), (4, .int (zi v11)), (3, .int (zi (1 : Int))), (11, .int (zi q49)), (10, .int (zi (if q46 = (1 : Int) then (0 : Int) else v42))), (0, .ref a_p0), (1, .int (zi p1)), (2, .int (zi q2)), (7, .int (zi v11)), (8, .int (zi q15)), (9, .int (zi v41))] dL_bounds_348 (by decide) rfl rfl ?_
                        refine z_iinc (pc' := 353) [(7, .int (zi (v11 + (1 : Int)))), (6, .int (zi q49)), (5, .int (zi (if q46 = (1 : Int) then (0 : Int) else v42))), (4, .int (zi v11)), (3, .int (zi (1 : Int))), (11, .int (zi q49)), (10, .int (zi (if q46 = (1 : Int) then (0 : Int) else v42))), (0, .ref a_p0), (1, .int (zi p1)), (2, .int (zi q2)), (8, .int (zi q15)), (9, .int (zi v41))] 9 dL_bounds_350 rfl (by decide) rfl rfl ?_
                        refine z_goto (tgt := 20) dL_bounds_353 (by decide) ?_
                        refine z_lv [(0, .ref a_p0), (1, .int (zi p1)), (2, .int (zi q2)), (3, .int (zi (1 : Int))), (4, .int (zi v11)), (5, .int (zi (if q46 = (1 : Int) then (0 : Int) else v42))), (6, .int (zi q49)), (7, .int (zi (v11 + (1 : Int))))] [7, 8, 9, 4, 3, 2, 1, 0] rfl ?_
                        exact ih _ _ _ _ _ hO79 hsh
                      · replace hsh := zif_f q hsh
                        refine z_iload (pc' := 321) 2 dL_bounds_319 rfl rfl ?_
                        refine z_if_le (pc' := 324) (tgt := 350) dL_bounds_321 (by decide) g58 rfl (fun q => ?_) (fun q => ?_)
                        · replace hsh := zif_f q hsh
                          refine z_iinc (pc' := 353) [(7, .int (zi (v11 + (1 : Int)))), (3, .int (zi (1 : Int))), (11, .int (zi q49)), (10, .int (zi (if q46 = (1 : Int) then (0 : Int) else v42))), (0, .ref a_p0), (1, .int (zi p1)), (2, .int (zi q2)), (4, .int (zi v8)), (5, .int (zi v9)), (6, .int (zi v10)), (8, .int (zi q15)), (9, .int (zi v41))] 9 dL_bounds_350 rfl (by decide) rfl rfl ?_
                          refine z_goto (tgt := 20) dL_bounds_353 (by decide) ?_
                          refine z_lv [(0, .ref a_p0), (1, .int (zi p1)), (2, .int (zi q2)), (3, .int (zi (1 : Int))), (4, .int (zi v8)), (5, .int (zi v9)), (6, .int (zi v10)), (7, .int (zi (v11 + (1 : Int))))] [4, 5, 6, 1, 7, 8, 9, 0] rfl ?_
                          exact ih _ _ _ _ _ hO79 hsh
                        · replace hsh := zif_t q hsh
                          refine z_iload (pc' := 326) 2 dL_bounds_324 rfl rfl ?_
                          refine z_iload (pc' := 328) 7 dL_bounds_326 rfl rfl ?_
                          refine z_icmp_ne (pc' := 331) (tgt := 350) dL_bounds_328 (by decide) g58 g82 rfl (fun q => ?_) (fun q => ?_)
                          · replace hsh := zif_f q hsh
                            refine z_iinc (pc' := 353) [(7, .int (zi (v11 + (1 : Int)))), (3, .int (zi (1 : Int))), (11, .int (zi q49)), (10, .int (zi (if q46 = (1 : Int) then (0 : Int) else v42))), (0, .ref a_p0), (1, .int (zi p1)), (2, .int (zi q2)), (4, .int (zi v8)), (5, .int (zi v9)), (6, .int (zi v10)), (8, .int (zi q15)), (9, .int (zi v41))] 9 dL_bounds_350 rfl (by decide) rfl rfl ?_
                            refine z_goto (tgt := 20) dL_bounds_353 (by decide) ?_
                            refine z_lv [(0, .ref a_p0), (1, .int (zi p1)), (2, .int (zi q2)), (3, .int (zi (1 : Int))), (4, .int (zi v8)), (5, .int (zi v9)), (6, .int (zi v10)), (7, .int (zi (v11 + (1 : Int))))] [4, 5, 6, 1, 7, 8, 9, 0] rfl ?_
                            exact ih _ _ _ _ _ hO79 hsh
                          · replace hsh := zif_t q hsh
                            refine z_iload (pc' := 333) 1 dL_bounds_331 rfl rfl ?_
                            refine z_iload (pc' := 335) 8 dL_bounds_333 rfl rfl ?_
                            have g83 := zkr_p hsh
                            replace hsh := zkr_k hsh
                            refine z_icmp_le (pc' := 338) (tgt := 350) dL_bounds_335 (by decide) hr48 g83 rfl (fun q => ?_) (fun q => ?_)
                            · replace hsh := zif_f q hsh
                              refine z_iinc (pc' := 353) [(7, .int (zi (v11 + (1 : Int)))), (3, .int (zi (1 : Int))), (11, .int (zi q49)), (10, .int (zi (if q46 = (1 : Int) then (0 : Int) else v42))), (0, .ref a_p0), (1, .int (zi p1)), (2, .int (zi q2)), (4, .int (zi v8)), (5, .int (zi v9)), (6, .int (zi v10)), (8, .int (zi q15)), (9, .int (zi v41))] 9 dL_bounds_350 rfl (by decide) rfl rfl ?_
                              refine z_goto (tgt := 20) dL_bounds_353 (by decide) ?_
                              refine z_lv [(0, .ref a_p0), (1, .int (zi p1)), (2, .int (zi q2)), (3, .int (zi (1 : Int))), (4, .int (zi v8)), (5, .int (zi v9)), (6, .int (zi v10)), (7, .int (zi (v11 + (1 : Int))))] [4, 5, 6, 1, 7, 8, 9, 0] rfl ?_
                              exact ih _ _ _ _ _ hO79 hsh
                            · replace hsh := zif_t q hsh
                              refine z_iload (pc' := 340) 9 dL_bounds_338 rfl rfl ?_
                              refine z_istore (pc' := 342) [(4, .int (zi v11)), (3, .int (zi (1 : Int))), (11, .int (zi q49)), (10, .int (zi (if q46 = (1 : Int) then (0 : Int) else v42))), (0, .ref a_p0), (1, .int (zi p1)), (2, .int (zi q2)), (5, .int (zi v9)), (6, .int (zi v10)), (7, .int (zi v11)), (8, .int (zi q15)), (9, .int (zi v41))] dL_bounds_340 (by decide) rfl rfl ?_
                              refine z_iload (pc' := 344) 3 dL_bounds_342 rfl rfl ?_
                              refine z_istore (pc' := 346) [(5, .int (zi (if q46 = (1 : Int) then (0 : Int) else v42))), (4, .int (zi v11)), (3, .int (zi (1 : Int))), (11, .int (zi q49)), (10, .int (zi (if q46 = (1 : Int) then (0 : Int) else v42))), (0, .ref a_p0), (1, .int (zi p1)), (2, .int (zi q2)), (6, .int (zi v10)), (7, .int (zi v11)), (8, .int (zi q15)), (9, .int (zi v41))] dL_bounds_344 (by decide) rfl rfl ?_
                              refine z_iload (pc' := 348) 3 dL_bounds_346 rfl rfl ?_
                              refine z_istore (pc' := 350) [(6, .int (zi q49)), (5, .int (zi (if q46 = (1 : Int) then (0 : Int) else v42))), (4, .int (zi v11)), (3, .int (zi (1 : Int))), (11, .int (zi q49)), (10, .int (zi (if q46 = (1 : Int) then (0 : Int) else v42))), (0, .ref a_p0), (1, .int (zi p1)), (2, .int (zi q2)), (7, .int (zi v11)), (8, .int (zi q15)), (9, .int (zi v41))] dL_bounds_348 (by decide) rfl rfl ?_
                              refine z_iinc (pc' := 353) [(7, .int (zi (v11 + (1 : Int)))), (6, .int (zi q49)), (5, .int (zi (if q46 = (1 : Int) then (0 : Int) else v42))), (4, .int (zi v11)), (3, .int (zi (1 : Int))), (11, .int (zi q49)), (10, .int (zi (if q46 = (1 : Int) then (0 : Int) else v42))), (0, .ref a_p0), (1, .int (zi p1)), (2, .int (zi q2)), (8, .int (zi q15)), (9, .int (zi v41))] 9 dL_bounds_350 rfl (by decide) rfl rfl ?_
                              refine z_goto (tgt := 20) dL_bounds_353 (by decide) ?_
                              refine z_lv [(0, .ref a_p0), (1, .int (zi p1)), (2, .int (zi q2)), (3, .int (zi (1 : Int))), (4, .int (zi v11)), (5, .int (zi (if q46 = (1 : Int) then (0 : Int) else v42))), (6, .int (zi q49)), (7, .int (zi (v11 + (1 : Int))))] [7, 8, 9, 4, 3, 2, 1, 0] rfl ?_
                              exact ih _ _ _ _ _ hO79 hsh
set_option maxRecDepth 100000 in
set_option maxHeartbeats 4000000 in
theorem zc_L_bounds (l : Launch) (D : va_G) (J : Nat → ClassId) (F : Nat) {a_p0 : Nat} {A_p0 : zO} {ws_p0 : va_W} (hO_p0 : cOB J a_p0 A_p0 ws_p0) (p1 : Int) (res : Int) (hsh : sh_L_bounds F A_p0 p1 = some res) : ZM l D J yL_bounds wsL_bounds ({ frames := 7, cells := 0, slots := 0, locals := 176 } : Room) 0 0 [.ref a_p0, .int (zi p1)] ws_p0 (fun rv w9 => rv = some (.int (zi res)) ∧ cOB J a_p0 A_p0 w9) := by
  refine z_ofZ (cc := cL_bounds) (maxL := 13) (ret := (some .boolean)) 0 0 (by decide) rfl (Nat.le_of_ble_eq_true rfl) [(0, .ref a_p0), (1, .int (zi p1))] rfl ?_
  intro p e s m args below meth c A
  unfold sh_L_bounds at hsh
  refine z_aload_n (pc' := 1) 0 dL_bounds_0 rfl rfl rfl ?_
  obtain ⟨q2, h3, hsh⟩ := zbind hsh
  obtain ⟨fs1, h0_1⟩ := hO_p0.h0
  refine z_callV (pc' := 4) (C := RX8) (As := []) (rest := []) (wr := []) 0 (oc_pointCount_d l D J hO_p0 h3) dL_bounds_1 gL_bounds_X8_pointCount rfl rfl rfl (by decide +kernel) ⟨Nat.le_of_ble_eq_true rfl, Nat.le_of_ble_eq_true rfl⟩ ⟨Nat.le_of_ble_eq_true rfl, Nat.le_of_ble_eq_true rfl⟩ (z_spl_nil _) h0_1 rfl rfl rfl (Nat.le_of_ble_eq_true rfl) rfl (fun rv w1 hq => ?_)
  obtain ⟨rfl, hr1, hO1⟩ := hq
  refine z_ws w1 rfl ?_
  refine z_istore_n (pc' := 5) [(2, .int (zi q2)), (0, .ref a_p0), (1, .int (zi p1))] dL_bounds_4 rfl (by decide) rfl rfl ?_
  refine z_iconst (pc' := 6) dL_bounds_5 rfl ?_
  refine z_istore_n (pc' := 7) [(3, .int (zi (1 : Int))), (2, .int (zi q2)), (0, .ref a_p0), (1, .int (zi p1))] dL_bounds_6 rfl (by decide) rfl rfl ?_
  refine z_bipush (pc' := 9) dL_bounds_7 (by decide) rfl ?_
  refine z_istore (pc' := 11) [(4, .int (zi (-9 : Int))), (3, .int (zi (1 : Int))), (2, .int (zi q2)), (0, .ref a_p0), (1, .int (zi p1))] dL_bounds_9 (by decide) rfl rfl ?_
  refine z_iconst (pc' := 12) dL_bounds_11 rfl ?_
  refine z_istore (pc' := 14) [(5, .int (zi (0 : Int))), (4, .int (zi (-9 : Int))), (3, .int (zi (1 : Int))), (2, .int (zi q2)), (0, .ref a_p0), (1, .int (zi p1))] dL_bounds_12 (by decide) rfl rfl ?_
  refine z_iconst (pc' := 15) dL_bounds_14 rfl ?_
  refine z_istore (pc' := 17) [(6, .int (zi (-1 : Int))), (5, .int (zi (0 : Int))), (4, .int (zi (-9 : Int))), (3, .int (zi (1 : Int))), (2, .int (zi q2)), (0, .ref a_p0), (1, .int (zi p1))] dL_bounds_15 (by decide) rfl rfl ?_
  refine z_iconst (pc' := 18) dL_bounds_17 rfl ?_
  refine z_istore (pc' := 20) [(7, .int (zi (0 : Int))), (6, .int (zi (-1 : Int))), (5, .int (zi (0 : Int))), (4, .int (zi (-9 : Int))), (3, .int (zi (1 : Int))), (2, .int (zi q2)), (0, .ref a_p0), (1, .int (zi p1))] dL_bounds_18 (by decide) rfl rfl ?_
  refine z_lv [(0, .ref a_p0), (1, .int (zi p1)), (2, .int (zi q2)), (3, .int (zi (1 : Int))), (4, .int (zi (-9 : Int))), (5, .int (zi (0 : Int))), (6, .int (zi (-1 : Int))), (7, .int (zi (0 : Int)))] [6, 7, 5, 4, 3, 2, 1, 0] rfl ?_
  refine zl_L_bounds_L20 (F := F) (hk := fun v84 v85 v86 v87 ws88_p0 hO88_p0 hsh => ?_) _ _ _ _ _ _ hO1 hsh
  refine z_iload_n (pc' := 357) 1 dL_bounds_356 rfl rfl rfl ?_
  refine z_if_eq (pc' := 360) (tgt := 383) dL_bounds_357 (by decide) (by decide) rfl (fun q => absurd q (by decide)) (fun q => ?_)
  refine z_aload_n (pc' := 361) 0 dL_bounds_360 rfl rfl rfl ?_
  obtain ⟨q90, h91, hsh⟩ := zbind hsh
  obtain ⟨fs89, h0_89⟩ := hO88_p0.h0
  refine z_callV (pc' := 364) (C := RX8) (As := []) (rest := []) (wr := []) 0 (oc_nextByOrder_d l D J hO88_p0 h91) dL_bounds_361 gL_bounds_X8_nextByOrder rfl rfl rfl (by decide +kernel) ⟨Nat.le_of_ble_eq_true rfl, Nat.le_of_ble_eq_true rfl⟩ ⟨Nat.le_of_ble_eq_true rfl, Nat.le_of_ble_eq_true rfl⟩ (z_spl_nil _) h0_89 rfl rfl rfl (Nat.le_of_ble_eq_true rfl) rfl (fun rv w89 hq => ?_)
  obtain ⟨rfl, hr89, hO89⟩ := hq
  refine z_ws w89 rfl ?_
  refine z_iload (pc' := 366) 2 dL_bounds_364 rfl rfl ?_
  have g92 := zkr_p hsh
  replace hsh := zkr_k hsh
  refine z_icmp_ne (pc' := 369) (tgt := 383) dL_bounds_366 (by decide) hr89 g92 rfl (fun q => ?_) (fun q => ?_)
  · replace hsh := zif_f q hsh
    cases hsh
  · replace hsh := zif_t q hsh
    refine z_aload_n (pc' := 370) 0 dL_bounds_369 rfl rfl rfl ?_
    refine z_iconst (pc' := 371) dL_bounds_370 rfl ?_
    obtain ⟨q94, h95, hsh⟩ := zbind hsh
    refine z_callSw (pc' := 374) (As := [.ref a_p0, .int (zi (0 : Int))]) (rest := []) (wr := []) 2 (oc_ahead_n l D J hO89 (0 : Int) h95) dL_bounds_371 gL_bounds_L_ahead rfl rfl rfl (by decide +kernel) ⟨Nat.le_of_ble_eq_true rfl, Nat.le_of_ble_eq_true rfl⟩ ⟨Nat.le_of_ble_eq_true rfl, Nat.le_of_ble_eq_true rfl⟩ (z_spl_nil _) rfl rfl (Nat.le_of_ble_eq_true rfl) rfl (fun E w9 hq => hq.elim) (fun rv w93 hq => ?_)
    obtain ⟨rfl, hr93, hO93⟩ := hq
    refine z_ws w93 rfl ?_
    refine z_iload (pc' := 376) 2 dL_bounds_374 rfl rfl ?_
    refine z_icmp_ne (pc' := 379) (tgt := 383) dL_bounds_376 (by decide) hr93 g92 rfl (fun q => ?_) (fun q => ?_)
    · replace hsh := zif_f q hsh
      cases hsh
    · replace hsh := zif_t q hsh
      refine z_iconst (pc' := 380) dL_bounds_379 rfl ?_
      refine z_goto (tgt := 384) dL_bounds_380 (by decide) ?_
      cases hsh
      exact z_zret rfl (by decide) dL_bounds_384 ⟨rfl, hO93⟩
