noncomputable def sh_L_act (F : Nat) (A_p0 : zO) (p1 : Int) (p2 : Int) : Option (Int × zO) := (kd_pointCount A_p0).bind (fun (q2 : Int) => zkr p2 (zkc (¬ q2 = 0) (zkr (zand p1 (15 : Int)) ((if (zand p1 (15 : Int)) = (0 : Int) then (sh_L_loadText F A_p0 (zshr p1 (4 : Int)) p2).bind (fun (q8 : Int × zO) => some (q8.1, q8.2)) else if (zand p1 (15 : Int)) = (1 : Int) then (kx_draw A_p0 (zmod p2 q2)).bind (fun (q11 : Int × zO) => some (q11.1, q11.2)) else if (zand p1 (15 : Int)) = (2 : Int) then (kx_draw A_p0 (zmod p2 q2)).bind (fun (q14 : Int × zO) => some (q14.1, q14.2)) else if (zand p1 (15 : Int)) = (3 : Int) then (kx_draw A_p0 (zmod p2 q2)).bind (fun (q17 : Int × zO) => some (q17.1, q17.2)) else if (zand p1 (15 : Int)) = (4 : Int) then (kx_draw A_p0 (zmod p2 q2)).bind (fun (q20 : Int × zO) => some (q20.1, q20.2)) else if (zand p1 (15 : Int)) = (5 : Int) then zkr (zdiv p2 (16 : Int)) ((kn_byOrder A_p0 ((1 : Int) + (zmod (zdiv p2 (16 : Int)) (12 : Int)))).bind (fun (q24 : Int × zO) => some (q24.1, q24.2))) else if (zand p1 (15 : Int)) = (6 : Int) then zkr (zdiv p2 (16 : Int)) ((kn_byOrder A_p0 ((1 : Int) + (zmod (zdiv p2 (16 : Int)) (12 : Int)))).bind (fun (q28 : Int × zO) => some (q28.1, q28.2))) else if (zand p1 (15 : Int)) = (7 : Int) then zkr (zdiv p2 (16 : Int)) ((kn_byOrder A_p0 ((1 : Int) + (zmod (zdiv p2 (16 : Int)) (12 : Int)))).bind (fun (q32 : Int × zO) => some (q32.1, q32.2))) else if (zand p1 (15 : Int)) = (8 : Int) then (kx_hang A_p0 (zmod p2 q2)).bind (fun (q35 : Int × zO) => some (q35.1, q35.2)) else if (zand p1 (15 : Int)) = (9 : Int) then (kx_release A_p0 (zmod p2 q2)).bind (fun (q38 : Int × zO) => some (q38.1, q38.2)) else if (zand p1 (15 : Int)) = (10 : Int) then zkr (zdiv p2 (16 : Int)) (zkr (zdiv p2 (144 : Int)) ((kx_add A_p0 (zmod p2 q2) ((1 : Int) + (zmod (zdiv p2 (16 : Int)) (9 : Int))) (zmod (zdiv p2 (144 : Int)) (10 : Int))).bind (fun (q43 : Int × zO) => some (q43.1, q43.2)))) else if (zand p1 (15 : Int)) = (11 : Int) then zkr (zdiv p2 (16 : Int)) (zkr (zdiv p2 (144 : Int)) ((kx_add A_p0 (zmod p2 q2) ((1 : Int) + (zmod (zdiv p2 (16 : Int)) (9 : Int))) (zmod (zdiv p2 (144 : Int)) (10 : Int))).bind (fun (q48 : Int × zO) => some (q48.1, q48.2)))) else if (zand p1 (15 : Int)) = (12 : Int) then zkr (zdiv p2 (16 : Int)) (zkr (zdiv p2 (144 : Int)) ((kx_add A_p0 (zmod p2 q2) ((1 : Int) + (zmod (zdiv p2 (16 : Int)) (9 : Int))) (zmod (zdiv p2 (144 : Int)) (10 : Int))).bind (fun (q53 : Int × zO) => some (q53.1, q53.2)))) else if (zand p1 (15 : Int)) = (13 : Int) then zkr (zmod p2 (3 : Int)) (if (zmod p2 (3 : Int)) = (0 : Int) then (kx_undo A_p0).bind (fun (q61 : Int × zO) => some (q61.1, q61.2)) else zkr (zdiv p2 (16 : Int)) ((kx_setBound A_p0 ((1 : Int) + (zmod (zdiv p2 (16 : Int)) (6 : Int)))).bind (fun (q58 : Int × zO) => some (q58.1, q58.2)))) else if (zand p1 (15 : Int)) = (14 : Int) then (kn_save A_p0 (zand p2 (1 : Int))).bind (fun (q64 : Int × zO) => some (q64.1, q64.2)) else (kx_restore A_p0 (zand p2 (1 : Int))).bind (fun (q67 : Int × zO) => some (q67.1, q67.2)))))))
set_option maxRecDepth 100000 in
set_option maxHeartbeats 4000000 in
theorem zc_L_act (l : Launch) (D : va_G) (J : Nat → ClassId) (F : Nat) {a_p0 : Nat} {A_p0 : zO} {ws_p0 : va_W} (hO_p0 : cOB J a_p0 A_p0 ws_p0) (p1 : Int) (p2 : Int) (res : Int × zO) (hsh : sh_L_act F A_p0 p1 p2 = some res) : ZM l D J yL_act wsL_act ({ frames := 10, cells := 4, slots := 24, locals := 184 } : Room) 4 24 [.ref a_p0, .int (zi p1), .int (zi p2)] ws_p0 (fun rv w9 => rv = some (.int (zi res.1)) ∧ cOB J a_p0 res.2 w9) := by
  refine z_ofZ (cc := cL_act) (maxL := 5) (ret := (some .int)) 4 24 (by decide) rfl (Nat.le_of_ble_eq_true rfl) [(0, .ref a_p0), (1, .int (zi p1)), (2, .int (zi p2))] rfl ?_
  intro p e s m args below meth c A
  unfold sh_L_act at hsh
  refine z_aload_n (pc' := 1) 0 dL_act_0 rfl rfl rfl ?_
  obtain ⟨q2, h3, hsh⟩ := zbind hsh
  obtain ⟨fs1, h0_1⟩ := hO_p0.h0
  refine z_callV (pc' := 4) (C := RX8) (As := []) (rest := []) (wr := []) 0 (oc_pointCount_d l D J hO_p0 h3) dL_act_1 gL_act_X8_pointCount rfl rfl rfl (by decide +kernel) ⟨Nat.le_of_ble_eq_true rfl, Nat.le_of_ble_eq_true rfl⟩ ⟨Nat.le_of_ble_eq_true rfl, Nat.le_of_ble_eq_true rfl⟩ (z_spl_nil _) h0_1 rfl rfl rfl (Nat.le_of_ble_eq_true rfl) rfl (fun rv w1 hq => ?_)
  obtain ⟨rfl, hr1, hO1⟩ := hq
  refine z_ws w1 rfl ?_
  refine z_istore_n (pc' := 5) [(3, .int (zi q2)), (0, .ref a_p0), (1, .int (zi p1)), (2, .int (zi p2))] dL_act_4 rfl (by decide) rfl rfl ?_
  refine z_iload_n (pc' := 6) 3 dL_act_5 rfl rfl rfl ?_
  refine z_iload_n (pc' := 7) 0 dL_act_6 rfl rfl rfl ?_
  have g4 := zkr_p hsh
  replace hsh := zkr_k hsh
  have g5 := zkc_p hsh
  replace hsh := zkc_k hsh
  refine z_irem (pc' := 8) dL_act_7 g4 hr1 g5 rfl ?_
  refine z_istore (pc' := 10) [(4, .int (zi (zmod p2 q2))), (3, .int (zi q2)), (0, .ref a_p0), (1, .int (zi p1)), (2, .int (zi p2))] dL_act_8 (by decide) rfl rfl ?_
  refine z_iload_n (pc' := 11) 3 dL_act_10 rfl rfl rfl ?_
  refine z_bipush (pc' := 13) dL_act_11 (by decide) rfl ?_
  refine z_iand (pc' := 14) dL_act_13 rfl ?_
  have g6 := zkr_p hsh
  replace hsh := zkr_k hsh
  by_cases hk0 : (zand p1 (15 : Int)) = (0 : Int)
  · replace hsh := zif_t hk0 hsh
    refine z_tableIn (k := (0 : Int)) (off := 74) (tgt := 88) dL_act_14 hk0 g6 (by decide) (by decide) rfl (by decide) ?_
    refine z_aload_n (pc' := 89) 2 dL_act_88 rfl rfl rfl ?_
    refine z_iload_n (pc' := 90) 3 dL_act_89 rfl rfl rfl ?_
    refine z_iconst (pc' := 91) dL_act_90 rfl ?_
    refine z_ishr (pc' := 92) dL_act_91 rfl ?_
    refine z_iload_n (pc' := 93) 4 dL_act_92 rfl rfl rfl ?_
    obtain ⟨q8, h9, hsh⟩ := zbind hsh
    refine z_callS (pc' := 96) (As := [.ref a_p0, .int (zi (zshr p1 (4 : Int))), .int (zi p2)]) (rest := []) (wr := []) 3 (zc_L_loadText l D J F hO1 (zshr p1 (4 : Int)) p2 q8 h9) dL_act_93 gL_act_L_loadText rfl rfl rfl (by decide +kernel) ⟨Nat.le_of_ble_eq_true rfl, Nat.le_of_ble_eq_true rfl⟩ ⟨Nat.le_of_ble_eq_true rfl, Nat.le_of_ble_eq_true rfl⟩ (z_spl_nil _) rfl rfl (Nat.le_of_ble_eq_true rfl) rfl (fun rv w7 hq => ?_)
    obtain ⟨rfl, hO7⟩ := hq
    refine z_ws w7 rfl ?_
    refine z_widen 1 6 (by decide) (by decide) ?_
    refine z_widen 4 24 (by decide) (by decide) ?_
    cases hsh
    exact z_iret rfl dL_act_96 ⟨rfl, hO7⟩
  replace hsh := zif_f hk0 hsh
  by_cases hk1 : (zand p1 (15 : Int)) = (1 : Int)
  · replace hsh := zif_t hk1 hsh
    refine z_tableIn (k := (1 : Int)) (off := 83) (tgt := 97) dL_act_14 hk1 g6 (by decide) (by decide) rfl (by decide) ?_
    refine z_aload_n (pc' := 98) 2 dL_act_97 rfl rfl rfl ?_
    refine z_iload (pc' := 100) 0 dL_act_98 rfl rfl ?_
    obtain ⟨q11, h12, hsh⟩ := zbind hsh
    refine z_callSw (pc' := 103) (As := [.ref a_p0, .int (zi (zmod p2 q2))]) (rest := []) (wr := []) 2 (oc_draw_x l D J hO1 (zmod p2 q2) h12) dL_act_100 gL_act_L_draw rfl rfl rfl (by decide +kernel) ⟨Nat.le_of_ble_eq_true rfl, Nat.le_of_ble_eq_true rfl⟩ ⟨Nat.le_of_ble_eq_true rfl, Nat.le_of_ble_eq_true rfl⟩ (z_spl_nil _) rfl rfl (Nat.le_of_ble_eq_true rfl) rfl (fun E w9 hq => hq.elim) (fun rv w10 hq => ?_)
    obtain ⟨rfl, hr10, hO10⟩ := hq
    refine z_ws w10 rfl ?_
    refine z_widen 2 12 (by decide) (by decide) ?_
    refine z_widen 4 24 (by decide) (by decide) ?_
    cases hsh
    exact z_iret rfl dL_act_103 ⟨rfl, hO10⟩
  replace hsh := zif_f hk1 hsh
  by_cases hk2 : (zand p1 (15 : Int)) = (2 : Int)
  · replace hsh := zif_t hk2 hsh
    refine z_tableIn (k := (2 : Int)) (off := 83) (tgt := 97) dL_act_14 hk2 g6 (by decide) (by decide) rfl (by decide) ?_
    refine z_aload_n (pc' := 98) 2 dL_act_97 rfl rfl rfl ?_
    refine z_iload (pc' := 100) 0 dL_act_98 rfl rfl ?_
    obtain ⟨q14, h15, hsh⟩ := zbind hsh
    refine z_callSw (pc' := 103) (As := [.ref a_p0, .int (zi (zmod p2 q2))]) (rest := []) (wr := []) 2 (oc_draw_x l D J hO1 (zmod p2 q2) h15) dL_act_100 gL_act_L_draw rfl rfl rfl (by decide +kernel) ⟨Nat.le_of_ble_eq_true rfl, Nat.le_of_ble_eq_true rfl⟩ ⟨Nat.le_of_ble_eq_true rfl, Nat.le_of_ble_eq_true rfl⟩ (z_spl_nil _) rfl rfl (Nat.le_of_ble_eq_true rfl) rfl (fun E w9 hq => hq.elim) (fun rv w13 hq => ?_)
    obtain ⟨rfl, hr13, hO13⟩ := hq
    refine z_ws w13 rfl ?_
    refine z_widen 2 12 (by decide) (by decide) ?_
    refine z_widen 4 24 (by decide) (by decide) ?_
    cases hsh
    exact z_iret rfl dL_act_103 ⟨rfl, hO13⟩
  replace hsh := zif_f hk2 hsh
  by_cases hk3 : (zand p1 (15 : Int)) = (3 : Int)
  · replace hsh := zif_t hk3 hsh
    refine z_tableIn (k := (3 : Int)) (off := 83) (tgt := 97) dL_act_14 hk3 g6 (by decide) (by decide) rfl (by decide) ?_
    refine z_aload_n (pc' := 98) 2 dL_act_97 rfl rfl rfl ?_
    refine z_iload (pc' := 100) 0 dL_act_98 rfl rfl ?_
    obtain ⟨q17, h18, hsh⟩ := zbind hsh
    refine z_callSw (pc' := 103) (As := [.ref a_p0, .int (zi (zmod p2 q2))]) (rest := []) (wr := []) 2 (oc_draw_x l D J hO1 (zmod p2 q2) h18) dL_act_100 gL_act_L_draw rfl rfl rfl (by decide +kernel) ⟨Nat.le_of_ble_eq_true rfl, Nat.le_of_ble_eq_true rfl⟩ ⟨Nat.le_of_ble_eq_true rfl, Nat.le_of_ble_eq_true rfl⟩ (z_spl_nil _) rfl rfl (Nat.le_of_ble_eq_true rfl) rfl (fun E w9 hq => hq.elim) (fun rv w16 hq => ?_)
    obtain ⟨rfl, hr16, hO16⟩ := hq
    refine z_ws w16 rfl ?_
    refine z_widen 2 12 (by decide) (by decide) ?_
    refine z_widen 4 24 (by decide) (by decide) ?_
    cases hsh
    exact z_iret rfl dL_act_103 ⟨rfl, hO16⟩
  replace hsh := zif_f hk3 hsh
  by_cases hk4 : (zand p1 (15 : Int)) = (4 : Int)
  · replace hsh := zif_t hk4 hsh
    refine z_tableIn (k := (4 : Int)) (off := 83) (tgt := 97) dL_act_14 hk4 g6 (by decide) (by decide) rfl (by decide) ?_
    refine z_aload_n (pc' := 98) 2 dL_act_97 rfl rfl rfl ?_
    refine z_iload (pc' := 100) 0 dL_act_98 rfl rfl ?_
    obtain ⟨q20, h21, hsh⟩ := zbind hsh
    refine z_callSw (pc' := 103) (As := [.ref a_p0, .int (zi (zmod p2 q2))]) (rest := []) (wr := []) 2 (oc_draw_x l D J hO1 (zmod p2 q2) h21) dL_act_100 gL_act_L_draw rfl rfl rfl (by decide +kernel) ⟨Nat.le_of_ble_eq_true rfl, Nat.le_of_ble_eq_true rfl⟩ ⟨Nat.le_of_ble_eq_true rfl, Nat.le_of_ble_eq_true rfl⟩ (z_spl_nil _) rfl rfl (Nat.le_of_ble_eq_true rfl) rfl (fun E w9 hq => hq.elim) (fun rv w19 hq => ?_)
    obtain ⟨rfl, hr19, hO19⟩ := hq
    refine z_ws w19 rfl ?_
    refine z_widen 2 12 (by decide) (by decide) ?_
    refine z_widen 4 24 (by decide) (by decide) ?_
    cases hsh
    exact z_iret rfl dL_act_103 ⟨rfl, hO19⟩
  replace hsh := zif_f hk4 hsh
  by_cases hk5 : (zand p1 (15 : Int)) = (5 : Int)
  · replace hsh := zif_t hk5 hsh
    refine z_tableIn (k := (5 : Int)) (off := 90) (tgt := 104) dL_act_14 hk5 g6 (by decide) (by decide) rfl (by decide) ?_
    refine z_aload_n (pc' := 105) 2 dL_act_104 rfl rfl rfl ?_
    refine z_iconst (pc' := 106) dL_act_105 rfl ?_
    refine z_iload_n (pc' := 107) 4 dL_act_106 rfl rfl rfl ?_
    refine z_bipush (pc' := 109) dL_act_107 (by decide) rfl ?_
    refine z_idiv (pc' := 110) dL_act_109 g4 (by decide) (by decide) rfl ?_
    refine z_bipush (pc' := 112) dL_act_110 (by decide) rfl ?_
    have g22 := zkr_p hsh
    replace hsh := zkr_k hsh
    refine z_irem (pc' := 113) dL_act_112 g22 (by decide) (by decide) rfl ?_
    refine z_iadd (pc' := 114) dL_act_113 rfl ?_
    obtain ⟨q24, h25, hsh⟩ := zbind hsh
    refine z_callSw (pc' := 117) (As := [.ref a_p0, .int (zi ((1 : Int) + (zmod (zdiv p2 (16 : Int)) (12 : Int))))]) (rest := []) (wr := []) 2 (oc_byOrder_n l D J hO1 ((1 : Int) + (zmod (zdiv p2 (16 : Int)) (12 : Int))) h25) dL_act_114 gL_act_L_byOrder rfl rfl rfl (by decide +kernel) ⟨Nat.le_of_ble_eq_true rfl, Nat.le_of_ble_eq_true rfl⟩ ⟨Nat.le_of_ble_eq_true rfl, Nat.le_of_ble_eq_true rfl⟩ (z_spl_nil _) rfl rfl (Nat.le_of_ble_eq_true rfl) rfl (fun E w9 hq => hq.elim) (fun rv w23 hq => ?_)
    obtain ⟨rfl, hr23, hO23⟩ := hq
    refine z_ws w23 rfl ?_
    refine z_widen 4 24 (by decide) (by decide) ?_
    cases hsh
    exact z_iret rfl dL_act_117 ⟨rfl, hO23⟩
  replace hsh := zif_f hk5 hsh
  by_cases hk6 : (zand p1 (15 : Int)) = (6 : Int)
  · replace hsh := zif_t hk6 hsh
    refine z_tableIn (k := (6 : Int)) (off := 90) (tgt := 104) dL_act_14 hk6 g6 (by decide) (by decide) rfl (by decide) ?_
    refine z_aload_n (pc' := 105) 2 dL_act_104 rfl rfl rfl ?_
    refine z_iconst (pc' := 106) dL_act_105 rfl ?_
    refine z_iload_n (pc' := 107) 4 dL_act_106 rfl rfl rfl ?_
    refine z_bipush (pc' := 109) dL_act_107 (by decide) rfl ?_
    refine z_idiv (pc' := 110) dL_act_109 g4 (by decide) (by decide) rfl ?_
    refine z_bipush (pc' := 112) dL_act_110 (by decide) rfl ?_
    have g26 := zkr_p hsh
    replace hsh := zkr_k hsh
    refine z_irem (pc' := 113) dL_act_112 g26 (by decide) (by decide) rfl ?_
    refine z_iadd (pc' := 114) dL_act_113 rfl ?_
    obtain ⟨q28, h29, hsh⟩ := zbind hsh
    refine z_callSw (pc' := 117) (As := [.ref a_p0, .int (zi ((1 : Int) + (zmod (zdiv p2 (16 : Int)) (12 : Int))))]) (rest := []) (wr := []) 2 (oc_byOrder_n l D J hO1 ((1 : Int) + (zmod (zdiv p2 (16 : Int)) (12 : Int))) h29) dL_act_114 gL_act_L_byOrder rfl rfl rfl (by decide +kernel) ⟨Nat.le_of_ble_eq_true rfl, Nat.le_of_ble_eq_true rfl⟩ ⟨Nat.le_of_ble_eq_true rfl, Nat.le_of_ble_eq_true rfl⟩ (z_spl_nil _) rfl rfl (Nat.le_of_ble_eq_true rfl) rfl (fun E w9 hq => hq.elim) (fun rv w27 hq => ?_)
    obtain ⟨rfl, hr27, hO27⟩ := hq
    refine z_ws w27 rfl ?_
    refine z_widen 4 24 (by decide) (by decide) ?_
    cases hsh
    exact z_iret rfl dL_act_117 ⟨rfl, hO27⟩
  replace hsh := zif_f hk6 hsh
  by_cases hk7 : (zand p1 (15 : Int)) = (7 : Int)
  · replace hsh := zif_t hk7 hsh
    refine z_tableIn (k := (7 : Int)) (off := 90) (tgt := 104) dL_act_14 hk7 g6 (by decide) (by decide) rfl (by decide) ?_
    refine z_aload_n (pc' := 105) 2 dL_act_104 rfl rfl rfl ?_
    refine z_iconst (pc' := 106) dL_act_105 rfl ?_
    refine z_iload_n (pc' := 107) 4 dL_act_106 rfl rfl rfl ?_
    refine z_bipush (pc' := 109) dL_act_107 (by decide) rfl ?_
    refine z_idiv (pc' := 110) dL_act_109 g4 (by decide) (by decide) rfl ?_
    refine z_bipush (pc' := 112) dL_act_110 (by decide) rfl ?_
    have g30 := zkr_p hsh
    replace hsh := zkr_k hsh
    refine z_irem (pc' := 113) dL_act_112 g30 (by decide) (by decide) rfl ?_
    refine z_iadd (pc' := 114) dL_act_113 rfl ?_
    obtain ⟨q32, h33, hsh⟩ := zbind hsh
    refine z_callSw (pc' := 117) (As := [.ref a_p0, .int (zi ((1 : Int) + (zmod (zdiv p2 (16 : Int)) (12 : Int))))]) (rest := []) (wr := []) 2 (oc_byOrder_n l D J hO1 ((1 : Int) + (zmod (zdiv p2 (16 : Int)) (12 : Int))) h33) dL_act_114 gL_act_L_byOrder rfl rfl rfl (by decide +kernel) ⟨Nat.le_of_ble_eq_true rfl, Nat.le_of_ble_eq_true rfl⟩ ⟨Nat.le_of_ble_eq_true rfl, Nat.le_of_ble_eq_true rfl⟩ (z_spl_nil _) rfl rfl (Nat.le_of_ble_eq_true rfl) rfl (fun E w9 hq => hq.elim) (fun rv w31 hq => ?_)
    obtain ⟨rfl, hr31, hO31⟩ := hq
    refine z_ws w31 rfl ?_
    refine z_widen 4 24 (by decide) (by decide) ?_
    cases hsh
    exact z_iret rfl dL_act_117 ⟨rfl, hO31⟩
  replace hsh := zif_f hk7 hsh
  by_cases hk8 : (zand p1 (15 : Int)) = (8 : Int)
  · replace hsh := zif_t hk8 hsh
    refine z_tableIn (k := (8 : Int)) (off := 104) (tgt := 118) dL_act_14 hk8 g6 (by decide) (by decide) rfl (by decide) ?_
    refine z_aload_n (pc' := 119) 2 dL_act_118 rfl rfl rfl ?_
    refine z_iload (pc' := 121) 0 dL_act_119 rfl rfl ?_
    obtain ⟨q35, h36, hsh⟩ := zbind hsh
    refine z_callSw (pc' := 124) (As := [.ref a_p0, .int (zi (zmod p2 q2))]) (rest := []) (wr := []) 2 (oc_hang_x l D J hO1 (zmod p2 q2) h36) dL_act_121 gL_act_L_hang rfl rfl rfl (by decide +kernel) ⟨Nat.le_of_ble_eq_true rfl, Nat.le_of_ble_eq_true rfl⟩ ⟨Nat.le_of_ble_eq_true rfl, Nat.le_of_ble_eq_true rfl⟩ (z_spl_nil _) rfl rfl (Nat.le_of_ble_eq_true rfl) rfl (fun E w9 hq => hq.elim) (fun rv w34 hq => ?_)
    obtain ⟨rfl, hr34, hO34⟩ := hq
    refine z_ws w34 rfl ?_
    refine z_widen 2 12 (by decide) (by decide) ?_
    refine z_widen 4 24 (by decide) (by decide) ?_
    cases hsh
    exact z_iret rfl dL_act_124 ⟨rfl, hO34⟩
  replace hsh := zif_f hk8 hsh
  by_cases hk9 : (zand p1 (15 : Int)) = (9 : Int)
  · replace hsh := zif_t hk9 hsh
    refine z_tableIn (k := (9 : Int)) (off := 111) (tgt := 125) dL_act_14 hk9 g6 (by decide) (by decide) rfl (by decide) ?_
    refine z_aload_n (pc' := 126) 2 dL_act_125 rfl rfl rfl ?_
    refine z_iload (pc' := 128) 0 dL_act_126 rfl rfl ?_
    obtain ⟨q38, h39, hsh⟩ := zbind hsh
    refine z_callSw (pc' := 131) (As := [.ref a_p0, .int (zi (zmod p2 q2))]) (rest := []) (wr := []) 2 (oc_release_x l D J hO1 (zmod p2 q2) h39) dL_act_128 gL_act_L_release rfl rfl rfl (by decide +kernel) ⟨Nat.le_of_ble_eq_true rfl, Nat.le_of_ble_eq_true rfl⟩ ⟨Nat.le_of_ble_eq_true rfl, Nat.le_of_ble_eq_true rfl⟩ (z_spl_nil _) rfl rfl (Nat.le_of_ble_eq_true rfl) rfl (fun E w9 hq => hq.elim) (fun rv w37 hq => ?_)
    obtain ⟨rfl, hr37, hO37⟩ := hq
    refine z_ws w37 rfl ?_
    refine z_widen 2 12 (by decide) (by decide) ?_
    refine z_widen 4 24 (by decide) (by decide) ?_
    cases hsh
    exact z_iret rfl dL_act_131 ⟨rfl, hO37⟩
  replace hsh := zif_f hk9 hsh
  by_cases hk10 : (zand p1 (15 : Int)) = (10 : Int)
  · replace hsh := zif_t hk10 hsh
    refine z_tableIn (k := (10 : Int)) (off := 118) (tgt := 132) dL_act_14 hk10 g6 (by decide) (by decide) rfl (by decide) ?_
    refine z_aload_n (pc' := 133) 2 dL_act_132 rfl rfl rfl ?_
    refine z_iload (pc' := 135) 0 dL_act_133 rfl rfl ?_
    refine z_iconst (pc' := 136) dL_act_135 rfl ?_
    refine z_iload_n (pc' := 137) 4 dL_act_136 rfl rfl rfl ?_
    refine z_bipush (pc' := 139) dL_act_137 (by decide) rfl ?_
    refine z_idiv (pc' := 140) dL_act_139 g4 (by decide) (by decide) rfl ?_
    refine z_bipush (pc' := 142) dL_act_140 (by decide) rfl ?_
    have g40 := zkr_p hsh
    replace hsh := zkr_k hsh
    refine z_irem (pc' := 143) dL_act_142 g40 (by decide) (by decide) rfl ?_
    refine z_iadd (pc' := 144) dL_act_143 rfl ?_
    refine z_iload_n (pc' := 145) 4 dL_act_144 rfl rfl rfl ?_
    refine z_sipush (pc' := 148) dL_act_145 (by decide) rfl ?_
    refine z_idiv (pc' := 149) dL_act_148 g4 (by decide) (by decide) rfl ?_
    refine z_bipush (pc' := 151) dL_act_149 (by decide) rfl ?_
    have g41 := zkr_p hsh
    replace hsh := zkr_k hsh
    refine z_irem (pc' := 152) dL_act_151 g41 (by decide) (by decide) rfl ?_
    obtain ⟨q43, h44, hsh⟩ := zbind hsh
    refine z_callSw (pc' := 155) (As := [.ref a_p0, .int (zi (zmod p2 q2)), .int (zi ((1 : Int) + (zmod (zdiv p2 (16 : Int)) (9 : Int)))), .int (zi (zmod (zdiv p2 (144 : Int)) (10 : Int)))]) (rest := []) (wr := []) 4 (oc_add_x l D J hO1 (zmod p2 q2) ((1 : Int) + (zmod (zdiv p2 (16 : Int)) (9 : Int))) (zmod (zdiv p2 (144 : Int)) (10 : Int)) h44) dL_act_152 gL_act_L_add rfl rfl rfl (by decide +kernel) ⟨Nat.le_of_ble_eq_true rfl, Nat.le_of_ble_eq_true rfl⟩ ⟨Nat.le_of_ble_eq_true rfl, Nat.le_of_ble_eq_true rfl⟩ (z_spl_nil _) rfl rfl (Nat.le_of_ble_eq_true rfl) rfl (fun E w9 hq => hq.elim) (fun rv w42 hq => ?_)
    obtain ⟨rfl, hr42, hO42⟩ := hq
    refine z_ws w42 rfl ?_
    refine z_widen 4 24 (by decide) (by decide) ?_
    cases hsh
    exact z_iret rfl dL_act_155 ⟨rfl, hO42⟩
  replace hsh := zif_f hk10 hsh
  by_cases hk11 : (zand p1 (15 : Int)) = (11 : Int)
  · replace hsh := zif_t hk11 hsh
    refine z_tableIn (k := (11 : Int)) (off := 118) (tgt := 132) dL_act_14 hk11 g6 (by decide) (by decide) rfl (by decide) ?_
    refine z_aload_n (pc' := 133) 2 dL_act_132 rfl rfl rfl ?_
    refine z_iload (pc' := 135) 0 dL_act_133 rfl rfl ?_
    refine z_iconst (pc' := 136) dL_act_135 rfl ?_
    refine z_iload_n (pc' := 137) 4 dL_act_136 rfl rfl rfl ?_
    refine z_bipush (pc' := 139) dL_act_137 (by decide) rfl ?_
    refine z_idiv (pc' := 140) dL_act_139 g4 (by decide) (by decide) rfl ?_
    refine z_bipush (pc' := 142) dL_act_140 (by decide) rfl ?_
    have g45 := zkr_p hsh
    replace hsh := zkr_k hsh
    refine z_irem (pc' := 143) dL_act_142 g45 (by decide) (by decide) rfl ?_
    refine z_iadd (pc' := 144) dL_act_143 rfl ?_
    refine z_iload_n (pc' := 145) 4 dL_act_144 rfl rfl rfl ?_
    refine z_sipush (pc' := 148) dL_act_145 (by decide) rfl ?_
    refine z_idiv (pc' := 149) dL_act_148 g4 (by decide) (by decide) rfl ?_
    refine z_bipush (pc' := 151) dL_act_149 (by decide) rfl ?_
    have g46 := zkr_p hsh
    replace hsh := zkr_k hsh
    refine z_irem (pc' := 152) dL_act_151 g46 (by decide) (by decide) rfl ?_
    obtain ⟨q48, h49, hsh⟩ := zbind hsh
    refine z_callSw (pc' := 155) (As := [.ref a_p0, .int (zi (zmod p2 q2)), .int (zi ((1 : Int) + (zmod (zdiv p2 (16 : Int)) (9 : Int)))), .int (zi (zmod (zdiv p2 (144 : Int)) (10 : Int)))]) (rest := []) (wr := []) 4 (oc_add_x l D J hO1 (zmod p2 q2) ((1 : Int) + (zmod (zdiv p2 (16 : Int)) (9 : Int))) (zmod (zdiv p2 (144 : Int)) (10 : Int)) h49) dL_act_152 gL_act_L_add rfl rfl rfl (by decide +kernel) ⟨Nat.le_of_ble_eq_true rfl, Nat.le_of_ble_eq_true rfl⟩ ⟨Nat.le_of_ble_eq_true rfl, Nat.le_of_ble_eq_true rfl⟩ (z_spl_nil _) rfl rfl (Nat.le_of_ble_eq_true rfl) rfl (fun E w9 hq => hq.elim) (fun rv w47 hq => ?_)
    obtain ⟨rfl, hr47, hO47⟩ := hq
    refine z_ws w47 rfl ?_
    refine z_widen 4 24 (by decide) (by decide) ?_
    cases hsh
    exact z_iret rfl dL_act_155 ⟨rfl, hO47⟩
  replace hsh := zif_f hk11 hsh
  by_cases hk12 : (zand p1 (15 : Int)) = (12 : Int)
  · replace hsh := zif_t hk12 hsh
    refine z_tableIn (k := (12 : Int)) (off := 118) (tgt := 132) dL_act_14 hk12 g6 (by decide) (by decide) rfl (by decide) ?_
    refine z_aload_n (pc' := 133) 2 dL_act_132 rfl rfl rfl ?_
    refine z_iload (pc' := 135) 0 dL_act_133 rfl rfl ?_
    refine z_iconst (pc' := 136) dL_act_135 rfl ?_
    refine z_iload_n (pc' := 137) 4 dL_act_136 rfl rfl rfl ?_
    refine z_bipush (pc' := 139) dL_act_137 (by decide) rfl ?_
    refine z_idiv (pc' := 140) dL_act_139 g4 (by decide) (by decide) rfl ?_
    refine z_bipush (pc' := 142) dL_act_140 (by decide) rfl ?_
    have g50 := zkr_p hsh
    replace hsh := zkr_k hsh
    refine z_irem (pc' := 143) dL_act_142 g50 (by decide) (by decide) rfl ?_
    refine z_iadd (pc' := 144) dL_act_143 rfl ?_
    refine z_iload_n (pc' := 145) 4 dL_act_144 rfl rfl rfl ?_
    refine z_sipush (pc' := 148) dL_act_145 (by decide) rfl ?_
    refine z_idiv (pc' := 149) dL_act_148 g4 (by decide) (by decide) rfl ?_
    refine z_bipush (pc' := 151) dL_act_149 (by decide) rfl ?_
    have g51 := zkr_p hsh
    replace hsh := zkr_k hsh
    refine z_irem (pc' := 152) dL_act_151 g51 (by decide) (by decide) rfl ?_
    obtain ⟨q53, h54, hsh⟩ := zbind hsh
    refine z_callSw (pc' := 155) (As := [.ref a_p0, .int (zi (zmod p2 q2)), .int (zi ((1 : Int) + (zmod (zdiv p2 (16 : Int)) (9 : Int)))), .int (zi (zmod (zdiv p2 (144 : Int)) (10 : Int)))]) (rest := []) (wr := []) 4 (oc_add_x l D J hO1 (zmod p2 q2) ((1 : Int) + (zmod (zdiv p2 (16 : Int)) (9 : Int))) (zmod (zdiv p2 (144 : Int)) (10 : Int)) h54) dL_act_152 gL_act_L_add rfl rfl rfl (by decide +kernel) ⟨Nat.le_of_ble_eq_true rfl, Nat.le_of_ble_eq_true rfl⟩ ⟨Nat.le_of_ble_eq_true rfl, Nat.le_of_ble_eq_true rfl⟩ (z_spl_nil _) rfl rfl (Nat.le_of_ble_eq_true rfl) rfl (fun E w9 hq => hq.elim) (fun rv w52 hq => ?_)
    obtain ⟨rfl, hr52, hO52⟩ := hq
    refine z_ws w52 rfl ?_
    refine z_widen 4 24 (by decide) (by decide) ?_
    cases hsh
    exact z_iret rfl dL_act_155 ⟨rfl, hO52⟩
  replace hsh := zif_f hk12 hsh
  by_cases hk13 : (zand p1 (15 : Int)) = (13 : Int)
  · replace hsh := zif_t hk13 hsh
    refine z_tableIn (k := (13 : Int)) (off := 142) (tgt := 156) dL_act_14 hk13 g6 (by decide) (by decide) rfl (by decide) ?_
    refine z_iload_n (pc' := 157) 4 dL_act_156 rfl rfl rfl ?_
    refine z_iconst (pc' := 158) dL_act_157 rfl ?_
    refine z_irem (pc' := 159) dL_act_158 g4 (by decide) (by decide) rfl ?_
    have g55 := zkr_p hsh
    replace hsh := zkr_k hsh
    refine z_if_ne (pc' := 162) (tgt := 169) dL_act_159 (by decide) g55 rfl (fun q => ?_) (fun q => ?_)
    · replace hsh := zif_f q hsh
      refine z_aload_n (pc' := 170) 2 dL_act_169 rfl rfl rfl ?_
      refine z_iconst (pc' := 171) dL_act_170 rfl ?_
      refine z_iload_n (pc' := 172) 4 dL_act_171 rfl rfl rfl ?_
      refine z_bipush (pc' := 174) dL_act_172 (by decide) rfl ?_
      refine z_idiv (pc' := 175) dL_act_174 g4 (by decide) (by decide) rfl ?_
      refine z_bipush (pc' := 177) dL_act_175 (by decide) rfl ?_
      have g56 := zkr_p hsh
      replace hsh := zkr_k hsh
      refine z_irem (pc' := 178) dL_act_177 g56 (by decide) (by decide) rfl ?_
      refine z_iadd (pc' := 179) dL_act_178 rfl ?_
      obtain ⟨q58, h59, hsh⟩ := zbind hsh
      refine z_callSw (pc' := 182) (As := [.ref a_p0, .int (zi ((1 : Int) + (zmod (zdiv p2 (16 : Int)) (6 : Int))))]) (rest := []) (wr := []) 2 (oc_setBound_x l D J hO1 ((1 : Int) + (zmod (zdiv p2 (16 : Int)) (6 : Int))) h59) dL_act_179 gL_act_L_setBound rfl rfl rfl (by decide +kernel) ⟨Nat.le_of_ble_eq_true rfl, Nat.le_of_ble_eq_true rfl⟩ ⟨Nat.le_of_ble_eq_true rfl, Nat.le_of_ble_eq_true rfl⟩ (z_spl_nil _) rfl rfl (Nat.le_of_ble_eq_true rfl) rfl (fun E w9 hq => hq.elim) (fun rv w57 hq => ?_)
      obtain ⟨rfl, hr57, hO57⟩ := hq
      refine z_ws w57 rfl ?_
      refine z_widen 2 12 (by decide) (by decide) ?_
      refine z_widen 4 24 (by decide) (by decide) ?_
      cases hsh
      exact z_iret rfl dL_act_182 ⟨rfl, hO57⟩
    · replace hsh := zif_t q hsh
      refine z_aload_n (pc' := 163) 2 dL_act_162 rfl rfl rfl ?_
      obtain ⟨q61, h62, hsh⟩ := zbind hsh
      refine z_callSw (pc' := 166) (As := [.ref a_p0]) (rest := []) (wr := []) 1 (oc_undo_x l D J hO1 h62) dL_act_163 gL_act_L_undo rfl rfl rfl (by decide +kernel) ⟨Nat.le_of_ble_eq_true rfl, Nat.le_of_ble_eq_true rfl⟩ ⟨Nat.le_of_ble_eq_true rfl, Nat.le_of_ble_eq_true rfl⟩ (z_spl_nil _) rfl rfl (Nat.le_of_ble_eq_true rfl) rfl (fun E w9 hq => hq.elim) (fun rv w60 hq => ?_)
      obtain ⟨rfl, hr60, hO60⟩ := hq
      refine z_ws w60 rfl ?_
      refine z_widen 1 6 (by decide) (by decide) ?_
      refine z_goto (tgt := 182) dL_act_166 (by decide) ?_
      refine z_widen 4 24 (by decide) (by decide) ?_
      cases hsh
      exact z_iret rfl dL_act_182 ⟨rfl, hO60⟩
  replace hsh := zif_f hk13 hsh
  by_cases hk14 : (zand p1 (15 : Int)) = (14 : Int)
  · replace hsh := zif_t hk14 hsh
    refine z_tableIn (k := (14 : Int)) (off := 169) (tgt := 183) dL_act_14 hk14 g6 (by decide) (by decide) rfl (by decide) ?_
    refine z_aload_n (pc' := 184) 2 dL_act_183 rfl rfl rfl ?_
    refine z_iload_n (pc' := 185) 4 dL_act_184 rfl rfl rfl ?_
    refine z_iconst (pc' := 186) dL_act_185 rfl ?_
    refine z_iand (pc' := 187) dL_act_186 rfl ?_
    obtain ⟨q64, h65, hsh⟩ := zbind hsh
    refine z_callSw (pc' := 190) (As := [.ref a_p0, .int (zi (zand p2 (1 : Int)))]) (rest := []) (wr := []) 2 (oc_save_n l D J hO1 (zand p2 (1 : Int)) h65) dL_act_187 gL_act_L_save rfl rfl rfl (by decide +kernel) ⟨Nat.le_of_ble_eq_true rfl, Nat.le_of_ble_eq_true rfl⟩ ⟨Nat.le_of_ble_eq_true rfl, Nat.le_of_ble_eq_true rfl⟩ (z_spl_nil _) rfl rfl (Nat.le_of_ble_eq_true rfl) rfl (fun E w9 hq => hq.elim) (fun rv w63 hq => ?_)
    obtain ⟨rfl, hr63, hO63⟩ := hq
    refine z_ws w63 rfl ?_
    refine z_widen 4 24 (by decide) (by decide) ?_
    cases hsh
    exact z_iret rfl dL_act_190 ⟨rfl, hO63⟩
  replace hsh := zif_f hk14 hsh
  refine z_tableOut (tgt := 191) dL_act_14 g6 (by omega) (by decide) ?_
  refine z_aload_n (pc' := 192) 2 dL_act_191 rfl rfl rfl ?_
  refine z_iload_n (pc' := 193) 4 dL_act_192 rfl rfl rfl ?_
  refine z_iconst (pc' := 194) dL_act_193 rfl ?_
  refine z_iand (pc' := 195) dL_act_194 rfl ?_
  obtain ⟨q67, h68, hsh⟩ := zbind hsh
  refine z_callSw (pc' := 198) (As := [.ref a_p0, .int (zi (zand p2 (1 : Int)))]) (rest := []) (wr := []) 2 (oc_restore_x l D J hO1 (zand p2 (1 : Int)) h68) dL_act_195 gL_act_L_restore rfl rfl rfl (by decide +kernel) ⟨Nat.le_of_ble_eq_true rfl, Nat.le_of_ble_eq_true rfl⟩ ⟨Nat.le_of_ble_eq_true rfl, Nat.le_of_ble_eq_true rfl⟩ (z_spl_nil _) rfl rfl (Nat.le_of_ble_eq_true rfl) rfl (fun E w9 hq => hq.elim) (fun rv w66 hq => ?_)
  obtain ⟨rfl, hr66, hO66⟩ := hq
  refine z_ws w66 rfl ?_
  refine z_widen 2 12 (by decide) (by decide) ?_
  refine z_widen 4 24 (by decide) (by decide) ?_
  cases hsh
  exact z_iret rfl dL_act_198 ⟨rfl, hO66⟩
