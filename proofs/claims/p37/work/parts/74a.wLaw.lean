def sh_L_areBeside (F : Nat) (p0 : Int) (p1 : Int) (p2 : Int) : Option (Int) := zkr p1 (zkr p0 (zkc (¬ p0 = 0) (zkr p2 (zkc (¬ p0 = 0) (zkc (¬ p0 = 0) (zkc (¬ p0 = 0) (zkr ((((zdiv p1 p0) - (zdiv p2 p0)) * ((zdiv p1 p0) - (zdiv p2 p0))) + (((zmod p1 p0) - (zmod p2 p0)) * ((zmod p1 p0) - (zmod p2 p0)))) (if ((((zdiv p1 p0) - (zdiv p2 p0)) * ((zdiv p1 p0) - (zdiv p2 p0))) + (((zmod p1 p0) - (zmod p2 p0)) * ((zmod p1 p0) - (zmod p2 p0)))) = (1 : Int) then some ((1 : Int)) else some ((0 : Int))))))))))
set_option maxRecDepth 100000 in
set_option maxHeartbeats 4000000 in
theorem zc_L_areBeside (l : Launch) (D : va_G) (J : Nat → ClassId) (F : Nat) (p0 : Int) (p1 : Int) (p2 : Int) (res : Int) (hsh : sh_L_areBeside F p0 p1 p2 = some res) : ZM l D J yL_areBeside wsL_areBeside ({ frames := 0, cells := 0, slots := 0, locals := 0 } : Room) 0 0 [.int (zi p0), .int (zi p1), .int (zi p2)] [] (fun rv w9 => rv = some (.int (zi res)) ∧ w9 = []) := by
  refine z_ofZ (cc := cL_areBeside) (maxL := 5) (ret := (some .boolean)) 0 0 (by decide) rfl (Nat.le_of_ble_eq_true rfl) [(0, .int (zi p0)), (1, .int (zi p1)), (2, .int (zi p2))] rfl ?_
  intro p e s m args below meth c A
  unfold sh_L_areBeside at hsh
  refine z_iload_n (pc' := 1) 1 dL_areBeside_0 rfl rfl rfl ?_
  refine z_iload_n (pc' := 2) 0 dL_areBeside_1 rfl rfl rfl ?_
  have g1 := zkr_p hsh
  replace hsh := zkr_k hsh
  have g2 := zkr_p hsh
  replace hsh := zkr_k hsh
  have g3 := zkc_p hsh
  replace hsh := zkc_k hsh
  refine z_idiv (pc' := 3) dL_areBeside_2 g1 g2 g3 rfl ?_
  refine z_iload_n (pc' := 4) 2 dL_areBeside_3 rfl rfl rfl ?_
  refine z_iload_n (pc' := 5) 0 dL_areBeside_4 rfl rfl rfl ?_
  have g4 := zkr_p hsh
  replace hsh := zkr_k hsh
  have g5 := zkc_p hsh
  replace hsh := zkc_k hsh
  refine z_idiv (pc' := 6) dL_areBeside_5 g4 g2 g5 rfl ?_
  refine z_isub (pc' := 7) dL_areBeside_6 rfl ?_
  refine z_istore_n (pc' := 8) [(3, .int (zi ((zdiv p1 p0) - (zdiv p2 p0)))), (0, .int (zi p0)), (1, .int (zi p1)), (2, .int (zi p2))] dL_areBeside_7 rfl (by decide) rfl rfl ?_
  refine z_iload_n (pc' := 9) 2 dL_areBeside_8 rfl rfl rfl ?_
  refine z_iload_n (pc' := 10) 1 dL_areBeside_9 rfl rfl rfl ?_
  have g6 := zkc_p hsh
  replace hsh := zkc_k hsh
  refine z_irem (pc' := 11) dL_areBeside_10 g1 g2 g6 rfl ?_
  refine z_iload_n (pc' := 12) 3 dL_areBeside_11 rfl rfl rfl ?_
  refine z_iload_n (pc' := 13) 1 dL_areBeside_12 rfl rfl rfl ?_
  have g7 := zkc_p hsh
  replace hsh := zkc_k hsh
  refine z_irem (pc' := 14) dL_areBeside_13 g4 g2 g7 rfl ?_
  refine z_isub (pc' := 15) dL_areBeside_14 rfl ?_
  refine z_istore (pc' := 17) [(4, .int (zi ((zmod p1 p0) - (zmod p2 p0)))), (3, .int (zi ((zdiv p1 p0) - (zdiv p2 p0)))), (0, .int (zi p0)), (1, .int (zi p1)), (2, .int (zi p2))] dL_areBeside_15 (by decide) rfl rfl ?_
  refine z_iload_n (pc' := 18) 1 dL_areBeside_17 rfl rfl rfl ?_
  refine z_iload_n (pc' := 19) 1 dL_areBeside_18 rfl rfl rfl ?_
  refine z_imul (pc' := 20) dL_areBeside_19 rfl ?_
  refine z_iload (pc' := 22) 0 dL_areBeside_20 rfl rfl ?_
  refine z_iload (pc' := 24) 0 dL_areBeside_22 rfl rfl ?_
  refine z_imul (pc' := 25) dL_areBeside_24 rfl ?_
  refine z_iadd (pc' := 26) dL_areBeside_25 rfl ?_
  refine z_iconst (pc' := 27) dL_areBeside_26 rfl ?_
  have g8 := zkr_p hsh
  replace hsh := zkr_k hsh
  refine z_icmp_ne (pc' := 30) (tgt := 34) dL_areBeside_27 (by decide) g8 (by decide) rfl (fun q => ?_) (fun q => ?_)
  · replace hsh := zif_f q hsh
    refine z_iconst (pc' := 35) dL_areBeside_34 rfl ?_
    cases hsh
    exact z_zret rfl (by decide) dL_areBeside_35 ⟨rfl, rfl⟩
  · replace hsh := zif_t q hsh
    refine z_iconst (pc' := 31) dL_areBeside_30 rfl ?_
    refine z_goto (tgt := 35) dL_areBeside_31 (by decide) ?_
    cases hsh
    exact z_zret rfl (by decide) dL_areBeside_35 ⟨rfl, rfl⟩
