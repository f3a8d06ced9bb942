noncomputable def sh_L_wants_L129 (F : Nat) (v13 : Int) (v14 : Int) (v15 : Int) (v16 : Int) (B18 : zO) (q25 : Int) (k : Int → (Nat → Int) → Option (Int × zO)) : Nat → Int → (Nat → Int) → Option (Int × zO)
  | 0, _, _ => none
  | N + 1, v30, v31 => zkr v30 (zkr v16 (if v30 < v16 then zkr v15 (zkc (¬ v15 = 0) (zkr v13 (zkc (¬ v15 = 0) (zkc (¬ v15 = 0) (zkc (¬ v15 = 0) (zkr ((zdiv v30 v15) - (zdiv v13 v15)) (zkr ((zmod v30 v15) - (zmod v13 v15)) ((kn_drawn B18 v13).bind (fun (q43 : Int) => (kn_drawn B18 v30).bind (fun (q46 : Int) => zkr ((q43 + v14) - (q25 * ((if ((zdiv v30 v15) - (zdiv v13 v15)) < (0 : Int) then (-((zdiv v30 v15) - (zdiv v13 v15))) else ((zdiv v30 v15) - (zdiv v13 v15))) + (if ((zmod v30 v15) - (zmod v13 v15)) < (0 : Int) then (-((zmod v30 v15) - (zmod v13 v15))) else ((zmod v30 v15) - (zmod v13 v15)))))) (if q46 < ((q43 + v14) - (q25 * ((if ((zdiv v30 v15) - (zdiv v13 v15)) < (0 : Int) then (-((zdiv v30 v15) - (zdiv v13 v15))) else ((zdiv v30 v15) - (zdiv v13 v15))) + (if ((zmod v30 v15) - (zmod v13 v15)) < (0 : Int) then (-((zmod v30 v15) - (zmod v13 v15))) else ((zmod v30 v15) - (zmod v13 v15)))))) then zkx v30 16 (sh_L_wants_L129 F v13 v14 v15 v16 B18 q25 k N (v30 + (1 : Int)) (va_up v31 (v30).toNat ((q43 + v14) - (q25 * ((if ((zdiv v30 v15) - (zdiv v13 v15)) < (0 : Int) then (-((zdiv v30 v15) - (zdiv v13 v15))) else ((zdiv v30 v15) - (zdiv v13 v15))) + (if ((zmod v30 v15) - (zmod v13 v15)) < (0 : Int) then (-((zmod v30 v15) - (zmod v13 v15))) else ((zmod v30 v15) - (zmod v13 v15)))))))) else (kn_drawn B18 v30).bind (fun (q50 : Int) => zkx v30 16 (sh_L_wants_L129 F v13 v14 v15 v16 B18 q25 k N (v30 + (1 : Int)) (va_up v31 (v30).toNat q50)))))))))))))) else k v30 v31))
noncomputable def sh_L_wants_L280 (F : Nat) (v16 : Int) (v55 : (Nat → Int)) (v70 : zO) (k : Int → Int → Option (Int × zO)) : Nat → Int → Int → Option (Int × zO)
  | 0, _, _ => none
  | N + 1, v75, v76 => zkr v76 (zkr v16 (if v76 < v16 then (kn_drawn v70 v76).bind (fun (q80 : Int) => zkx v76 16 (zkr (v55 (v76).toNat) (if q80 < (v55 (v76).toNat) then zkr v75 (if v75 = (-9 : Int) then sh_L_wants_L280 F v16 v55 v70 k N v76 (v76 + (1 : Int)) else (kn_drawn v70 v76).bind (fun (q86 : Int) => (kn_drawn v70 v75).bind (fun (q89 : Int) => sh_L_wants_L280 F v16 v55 v70 k N (if q86 < q89 then v76 else v75) (v76 + (1 : Int))))) else sh_L_wants_L280 F v16 v55 v70 k N v75 (v76 + (1 : Int))))) else k v75 v76))
noncomputable def sh_L_wants_L261 (F : Nat) (v16 : Int) (v17 : Int) (v55 : (Nat → Int)) (k : Int → zO → Option (Int × zO)) : Nat → Int → zO → Option (Int × zO)
  | 0, _, _ => none
  | N + 1, v69, v70 => zkr v69 (zkr v17 (if v69 < v17 then sh_L_wants_L280 F v16 v55 v70 (fun (v92 : Int) (v93 : Int) => zkr v92 (if v92 = (-9 : Int) then none else (kn_draw v70 v92).bind (fun (q97 : Int × zO) => if q97.1 < (0 : Int) then none else sh_L_wants_L261 F v16 v17 v55 k N (v69 + (1 : Int)) q97.2))) F (-9 : Int) (0 : Int) else k v69 v70))
noncomputable def sh_L_wants_L370 (F : Nat) (v16 : Int) (v55 : (Nat → Int)) (v100 : zO) (k : Int → Option (Int × zO)) : Nat → Int → Option (Int × zO)
  | 0, _ => none
  | N + 1, v103 => zkr v103 (zkr v16 (if v103 < v16 then (kn_drawn v100 v103).bind (fun (q107 : Int) => zkx v103 16 (zkr (v55 (v103).toNat) (if q107 = (v55 (v103).toNat) then sh_L_wants_L370 F v16 v55 v100 k N (v103 + (1 : Int)) else none))) else k v103))
noncomputable def sh_L_wants_J87 (F : Nat) (v13 : Int) (v14 : Int) (v15 : Int) (v16 : Int) (v17 : Int) (B18 : zO) : Option (Int × zO) := zkr v17 (if v17 = (-9 : Int) then some ((1 : Int), B18) else zkr v14 (if (8 : Int) < v14 then some ((1 : Int), B18) else (sh_L_now F B18).bind (fun (q22 : Int) => (kd_bound B18).bind (fun (q25 : Int) => sh_L_wants_L129 F v13 v14 v15 v16 B18 q25 (fun (v54 : Int) (v55 : (Nat → Int)) => (kn_save B18 (1 : Int)).bind (fun (q58 : Int × zO) => (kd_totalBuckets q58.2).bind (fun (q61 : Int) => if q58.1 = q61 then (kd_totalBuckets q58.2).bind (fun (q64 : Int) => sh_L_wants_L261 F v16 v17 v55 (fun (v99 : Int) (v100 : zO) => sh_L_wants_L370 F v16 v55 v100 (fun (v111 : Int) => (kd_totalBuckets v100).bind (fun (q114 : Int) => zkr (q64 + v17) (if q114 = (q64 + v17) then (kn_restore v100 (1 : Int)).bind (fun (q118 : Int × zO) => if q118.1 = q64 then (sh_L_now F q118.2).bind (fun (q121 : Int) => zkl q121 (zkl q22 (if q121 = q22 then some ((1 : Int), q118.2) else none))) else none) else none))) F (0 : Int)) F (0 : Int) q58.2) else none))) F (0 : Int) (fun _ => 0)))))
noncomputable def sh_L_wants (F : Nat) (A_p0 : zO) (p1 : Int) (p2 : Int) (p3 : Int) : Option (Int × zO) := (kd_pointCount A_p0).bind (fun (q2 : Int) => (kn_bucketsFor A_p0 p1 p2).bind (fun (q5 : Int) => (kn_most A_p0 p1).bind (fun (q8 : Int) => zkr p2 (if (if q5 = (-9 : Int) then (1 : Int) else (0 : Int)) = (if q8 < p2 then (1 : Int) else (0 : Int)) then if p2 = (1 : Int) then (kn_ready A_p0 p1).bind (fun (q127 : Int) => if (if q5 = (1 : Int) then (1 : Int) else (0 : Int)) = (if q127 = (1 : Int) then (1 : Int) else (0 : Int)) then sh_L_wants_J87 F p1 p2 p3 q2 q5 A_p0 else none) else sh_L_wants_J87 F p1 p2 p3 q2 q5 A_p0 else none))))
theorem mL_wants_aint : Cond.arrayClass .int ∈ wsL_wants := List.mem_of_getElem? (i := 1) rfl
set_option maxRecDepth 100000 in
set_option maxHeartbeats 4000000 in
theorem zl_L_wants_L129 {p : Program} {l : Launch} {e : Env} {s : State} {m : MethodId} {args : Array Value} {below : List Frame} {meth : Method} {c : Code} {A : Nat → Prop} {D : va_G} {J : Nat → ClassId} {F : Nat} {a_p0 : Nat} {v13 : Int} {v14 : Int} {v15 : Int} {v16 : Int} {B18 : zO} {q25 : Int} {b_122 : Nat} {v17 : Int} {q22 : Int} {res : Int × zO} {k : Int → (Nat → Int) → Option (Int × zO)} (hk : ∀ (v30' : Int) (v31' : (Nat → Int)) (ws_p0' : va_W), cOB J a_p0 B18 ws_p0' → k v30' v31' = some res → Z p l e ({ frames := 6, cells := 1, slots := 16, locals := 152 } : Room) s m args below meth c (MQ below (zQ D J A (fun rv w9 => rv = some (.int (zi res.1)) ∧ cOB J a_p0 res.2 w9)) args s 1 16 A) cL_wants 17 wsL_wants RL D J A (some .boolean) (yL_wants.name, []) 1 16 ((b_122, zI J 16 v31') :: ws_p0') [(0, .ref a_p0), (4, .int (zi v16)), (5, .int (zi v17)), (8, .long (zl q22)), (11, .ref b_122)] 233 []) : ∀ (N : Nat) (v30 : Int) (v31 : (Nat → Int)) (ws_p0 : va_W), cOB J a_p0 B18 ws_p0 → sh_L_wants_L129 F v13 v14 v15 v16 B18 q25 k N v30 v31 = some res → Z p l e ({ frames := 6, cells := 1, slots := 16, locals := 152 } : Room) s m args below meth c (MQ below (zQ D J A (fun rv w9 => rv = some (.int (zi res.1)) ∧ cOB J a_p0 res.2 w9)) args s 1 16 A) cL_wants 17 wsL_wants RL D J A (some .boolean) (yL_wants.name, []) 1 16 ((b_122, zI J 16 v31) :: ws_p0) [(0, .ref a_p0), (1, .int (zi v13)), (2, .int (zi v14)), (3, .int (zi v15)), (4, .int (zi v16)), (5, .int (zi v17)), (8, .long (zl q22)), (10, .int (zi q25)), (11, .ref b_122), (12, .int (zi v30))] 129 [] := by
  intro N
  induction N with
  | zero =>
    intro v30 v31 ws_p0 hO_p0 hsh
    exact absurd hsh (by simp [sh_L_wants_L129])
  | succ N ih =>
    intro v30 v31 ws_p0 hO_p0 hsh
    rw [sh_L_wants_L129] at hsh
    refine z_iload (pc' := 131) 9 dL_wants_129 rfl rfl ?_
    refine z_iload (pc' := 133) 4 dL_wants_131 rfl rfl ?_
    have g32 := zkr_p hsh
    replace hsh := zkr_k hsh
    have g33 := zkr_p hsh
    replace hsh := zkr_k hsh
    refine z_icmp_ge (pc' := 136) (tgt := 233) dL_wants_133 (by decide) g32 g33 rfl (fun q => ?_) (fun q => ?_)
    · replace hsh := zif_f q hsh
      refine z_lv [(0, .ref a_p0), (4, .int (zi v16)), (5, .int (zi v17)), (8, .long (zl q22)), (11, .ref b_122)] [0, 4, 5, 6, 8] rfl ?_
      exact hk _ _ _ hO_p0 hsh
    · replace hsh := zif_t q hsh
      refine z_iload (pc' := 138) 9 dL_wants_136 rfl rfl ?_
      refine z_iload_n (pc' := 139) 3 dL_wants_138 rfl rfl rfl ?_
      have g34 := zkr_p hsh
      replace hsh := zkr_k hsh
      have g35 := zkc_p hsh
      replace hsh := zkc_k hsh
      refine z_idiv (pc' := 140) dL_wants_139 g32 g34 g35 rfl ?_
      refine z_iload_n (pc' := 141) 1 dL_wants_140 rfl rfl rfl ?_
      refine z_iload_n (pc' := 142) 3 dL_wants_141 rfl rfl rfl ?_
      have g36 := zkr_p hsh
      replace hsh := zkr_k hsh
      have g37 := zkc_p hsh
      replace hsh := zkc_k hsh
      refine z_idiv (pc' := 143) dL_wants_142 g36 g34 g37 rfl ?_
      refine z_isub (pc' := 144) dL_wants_143 rfl ?_
      refine z_istore (pc' := 146) [(13, .int (zi ((zdiv v30 v15) - (zdiv v13 v15)))), (0, .ref a_p0), (1, .int (zi v13)), (2, .int (zi v14)), (3, .int (zi v15)), (4, .int (zi v16)), (5, .int (zi v17)), (8, .long (zl q22)), (10, .int (zi q25)), (11, .ref b_122), (12, .int (zi v30))] dL_wants_144 (by decide) rfl rfl ?_
      refine z_iload (pc' := 148) 10 dL_wants_146 rfl rfl ?_
      refine z_iload_n (pc' := 149) 4 dL_wants_148 rfl rfl rfl ?_
      have g38 := zkc_p hsh
      replace hsh := zkc_k hsh
      refine z_irem (pc' := 150) dL_wants_149 g32 g34 g38 rfl ?_
      refine z_iload_n (pc' := 151) 2 dL_wants_150 rfl rfl rfl ?_
      refine z_iload_n (pc' := 152) 4 dL_wants_151 rfl rfl rfl ?_
      have g39 := zkc_p hsh
      replace hsh := zkc_k hsh
      refine z_irem (pc' := 153) dL_wants_152 g36 g34 g39 rfl ?_
      refine z_isub (pc' := 154) dL_wants_153 rfl ?_
      refine z_istore (pc' := 156) [(14, .int (zi ((zmod v30 v15) - (zmod v13 v15)))), (13, .int (zi ((zdiv v30 v15) - (zdiv v13 v15)))), (0, .ref a_p0), (1, .int (zi v13)), (2, .int (zi v14)), (3, .int (zi v15)), (4, .int (zi v16)), (5, .int (zi v17)), (8, .long (zl q22)), (10, .int (zi q25)), (11, .ref b_122), (12, .int (zi v30))] dL_wants_154 (by decide) rfl rfl ?_
      refine z_iload (pc' := 158) 1 dL_wants_156 rfl rfl ?_
      have g40 := zkr_p hsh
      replace hsh := zkr_k hsh
      refine z_pmin (c := ((zdiv v30 v15) - (zdiv v13 v15)) < (0 : Int)) (u := (-((zdiv v30 v15) - (zdiv v13 v15)))) (v := ((zdiv v30 v15) - (zdiv v13 v15))) (fun y9 => Z p l e ({ frames := 6, cells := 1, slots := 16, locals := 152 } : Room) s m args below meth c (MQ below (zQ D J A (fun rv w9 => rv = some (.int (zi res.1)) ∧ cOB J a_p0 res.2 w9)) args s 1 16 A) cL_wants 17 wsL_wants RL D J A (some .boolean) (yL_wants.name, []) 1 16 ((b_122, zI J 16 v31) :: ws_p0) [(14, .int (zi ((zmod v30 v15) - (zmod v13 v15)))), (13, .int (zi ((zdiv v30 v15) - (zdiv v13 v15)))), (0, .ref a_p0), (1, .int (zi v13)), (2, .int (zi v14)), (3, .int (zi v15)), (4, .int (zi v16)), (5, .int (zi v17)), (8, .long (zl q22)), (10, .int (zi q25)), (11, .ref b_122), (12, .int (zi v30))] 169 [.int (zi y9)]) (fun j1 j2 => ?_) ?_
      · refine z_if_ge (pc' := 161) (tgt := 167) dL_wants_158 (by decide) g40 rfl (fun q => ?_) (fun q => ?_)
        · refine z_iload (pc' := 169) 1 dL_wants_167 rfl rfl ?_
          exact j2 q
        · refine z_iload (pc' := 163) 1 dL_wants_161 rfl rfl ?_
          refine z_ineg (pc' := 164) dL_wants_163 rfl ?_
          refine z_goto (tgt := 169) dL_wants_164 (by decide) ?_
          exact j1 q
      refine z_iload (pc' := 171) 0 dL_wants_169 rfl rfl ?_
      have g41 := zkr_p hsh
      replace hsh := zkr_k hsh
      refine z_pmin (c := ((zmod v30 v15) - (zmod v13 v15)) < (0 : Int)) (u := (-((zmod v30 v15) - (zmod v13 v15)))) (v := ((zmod v30 v15) - (zmod v13 v15))) (fun y9 => Z p l e ({ frames := 6, cells := 1, slots := 16, locals := 152 } : Room) s m args below meth c (MQ below (zQ D J A (fun rv w9 => rv = some (.int (zi res.1)) ∧ cOB J a_p0 res.2 w9)) args s 1 16 A) cL_wants 17 wsL_wants RL D J A (some .boolean) (yL_wants.name, []) 1 16 ((b_122, zI J 16 v31) :: ws_p0) [(14, .int (zi ((zmod v30 v15) - (zmod v13 v15)))), (13, .int (zi ((zdiv v30 v15) - (zdiv v13 v15)))), (0, .ref a_p0), (1, .int (zi v13)), (2, .int (zi v14)), (3, .int (zi v15)), (4, .int (zi v16)), (5, .int (zi v17)), (8, .long (zl q22)), (10, .int (zi q25)), (11, .ref b_122), (12, .int (zi v30))] 182 [.int (zi y9), .int (zi (if ((zdiv v30 v15) - (zdiv v13 v15)) < (0 : Int) then (-((zdiv v30 v15) - (zdiv v13 v15))) else ((zdiv v30 v15) - (zdiv v13 v15))))]) (fun j1 j2 => ?_) ?_
      · refine z_if_ge (pc' := 174) (tgt := 180) dL_wants_171 (by decide) g41 rfl (fun q => ?_) (fun q => ?_)
        · refine z_iload (pc' := 182) 0 dL_wants_180 rfl rfl ?_
          exact j2 q
        · refine z_iload (pc' := 176) 0 dL_wants_174 rfl rfl ?_
          refine z_ineg (pc' := 177) dL_wants_176 rfl ?_
          refine z_goto (tgt := 182) dL_wants_177 (by decide) ?_
          exact j1 q
      refine z_iadd (pc' := 183) dL_wants_182 rfl ?_
      refine z_istore (pc' := 185) [(15, .int (zi ((if ((zdiv v30 v15) - (zdiv v13 v15)) < (0 : Int) then (-((zdiv v30 v15) - (zdiv v13 v15))) else ((zdiv v30 v15) - (zdiv v13 v15))) + (if ((zmod v30 v15) - (zmod v13 v15)) < (0 : Int) then (-((zmod v30 v15) - (zmod v13 v15))) else ((zmod v30 v15) - (zmod v13 v15)))))), (14, .int (zi ((zmod v30 v15) - (zmod v13 v15)))), (13, .int (zi ((zdiv v30 v15) - (zdiv v13 v15)))), (0, .ref a_p0), (1, .int (zi v13)), (2, .int (zi v14)), (3, .int (zi v15)), (4, .int (zi v16)), (5, .int (zi v17)), (8, .long (zl q22)), (10, .int (zi q25)), (11, .ref b_122), (12, .int (zi v30))] dL_wants_183 (by decide) rfl rfl ?_
      refine z_aload_n (pc' := 186) 3 dL_wants_185 rfl rfl rfl ?_
      refine z_iload_n (pc' := 187) 4 dL_wants_186 rfl rfl rfl ?_
      obtain ⟨q43, h44, hsh⟩ := zbind hsh
      refine z_callSw (pc' := 190) (As := [.ref a_p0, .int (zi v13)]) (rest := []) (wr := [(b_122, zI J 16 v31)]) 2 (oc_drawn_n l D J hO_p0 v13 h44) dL_wants_187 gL_wants_L_drawn rfl rfl rfl (by decide +kernel) ⟨Nat.le_of_ble_eq_true rfl, Nat.le_of_ble_eq_true rfl⟩ ⟨Nat.le_of_ble_eq_true rfl, Nat.le_of_ble_eq_true rfl⟩ (z_spl_sw _ _) rfl rfl (Nat.le_of_ble_eq_true rfl) rfl (fun E w9 hq => hq.elim) (fun rv w42 hq => ?_)
      obtain ⟨rfl, hr42, hO42⟩ := hq
      refine z_ws ((b_122, zI J 16 v31) :: w42) rfl ?_
      refine z_iload_n (pc' := 191) 5 dL_wants_190 rfl rfl rfl ?_
      refine z_iadd (pc' := 192) dL_wants_191 rfl ?_
      refine z_iload (pc' := 194) 10 dL_wants_192 rfl rfl ?_
      refine z_iload (pc' := 196) 0 dL_wants_194 rfl rfl ?_
      refine z_imul (pc' := 197) dL_wants_196 rfl ?_
      refine z_isub (pc' := 198) dL_wants_197 rfl ?_
      refine z_istore (pc' := 200) [(16, .int (zi ((q43 + v14) - (q25 * ((if ((zdiv v30 v15) - (zdiv v13 v15)) < (0 : Int) then (-((zdiv v30 v15) - (zdiv v13 v15))) else ((zdiv v30 v15) - (zdiv v13 v15))) + (if ((zmod v30 v15) - (zmod v13 v15)) < (0 : Int) then (-((zmod v30 v15) - (zmod v13 v15))) else ((zmod v30 v15) - (zmod v13 v15)))))))), (15, .int (zi ((if ((zdiv v30 v15) - (zdiv v13 v15)) < (0 : Int) then (-((zdiv v30 v15) - (zdiv v13 v15))) else ((zdiv v30 v15) - (zdiv v13 v15))) + (if ((zmod v30 v15) - (zmod v13 v15)) < (0 : Int) then (-((zmod v30 v15) - (zmod v13 v15))) else ((zmod v30 v15) - (zmod v13 v15)))))), (14, .int (zi ((zmod v30 v15) - (zmod v13 v15)))), (13, .int (zi ((zdiv v30 v15) - (zdiv v13 v15)))), (0, .ref a_p0), (1, .int (zi v13)), (2, .int (zi v14)), (3, .int (zi v15)), (4, .int (zi v16)), (5, .int (zi v17)), (8, .long (zl q22)), (10, .int (zi q25)), (11, .ref b_122), (12, .int (zi v30))] dL_wants_198 (by decide) rfl rfl ?_
      refine z_aload (pc' := 202) 12 dL_wants_200 rfl rfl ?_
      refine z_iload (pc' := 204) 13 dL_wants_202 rfl rfl ?_
      refine z_iload (pc' := 206) 0 dL_wants_204 rfl rfl ?_
      refine z_aload_n (pc' := 207) 4 dL_wants_206 rfl rfl rfl ?_
      refine z_iload (pc' := 209) 13 dL_wants_207 rfl rfl ?_
      obtain ⟨q46, h47, hsh⟩ := zbind hsh
      refine z_callSw (pc' := 212) (As := [.ref a_p0, .int (zi v30)]) (rest := [.int (zi ((q43 + v14) - (q25 * ((if ((zdiv v30 v15) - (zdiv v13 v15)) < (0 : Int) then (-((zdiv v30 v15) - (zdiv v13 v15))) else ((zdiv v30 v15) - (zdiv v13 v15))) + (if ((zmod v30 v15) - (zmod v13 v15)) < (0 : Int) then (-((zmod v30 v15) - (zmod v13 v15))) else ((zmod v30 v15) - (zmod v13 v15))))))), .int (zi v30), .ref b_122]) (wr := [(b_122, zI J 16 v31)]) 2 (oc_drawn_n l D J hO42 v30 h47) dL_wants_209 gL_wants_L_drawn rfl rfl rfl (by decide +kernel) ⟨Nat.le_of_ble_eq_true rfl, Nat.le_of_ble_eq_true rfl⟩ ⟨Nat.le_of_ble_eq_true rfl, Nat.le_of_ble_eq_true rfl⟩ (z_spl_sw _ _) rfl rfl (Nat.le_of_ble_eq_true rfl) rfl (fun E w9 hq => hq.elim) (fun rv w45 hq => ?_)
      obtain ⟨rfl, hr45, hO45⟩ := hq
      refine z_ws ((b_122, zI J 16 v31) :: w45) rfl ?_
      have g48 := zkr_p hsh
      replace hsh := zkr_k hsh
      refine z_icmp_le (pc' := 215) (tgt := 220) dL_wants_212 (by decide) g48 hr45 rfl (fun q => ?_) (fun q => ?_)
      · replace hsh := zif_f q hsh
        refine z_aload_n (pc' := 221) 4 dL_wants_220 rfl rfl rfl ?_
        refine z_iload (pc' := 223) 13 dL_wants_221 rfl rfl ?_
        obtain ⟨q50, h51, hsh⟩ := zbind hsh
        refine z_callSw (pc' := 226) (As := [.ref a_p0, .int (zi v30)]) (rest := [.int (zi v30), .ref b_122]) (wr := [(b_122, zI J 16 v31)]) 2 (oc_drawn_n l D J hO45 v30 h51) dL_wants_223 gL_wants_L_drawn rfl rfl rfl (by decide +kernel) ⟨Nat.le_of_ble_eq_true rfl, Nat.le_of_ble_eq_true rfl⟩ ⟨Nat.le_of_ble_eq_true rfl, Nat.le_of_ble_eq_true rfl⟩ (z_spl_sw _ _) rfl rfl (Nat.le_of_ble_eq_true rfl) rfl (fun E w9 hq => hq.elim) (fun rv w49 hq => ?_)
        obtain ⟨rfl, hr49, hO49⟩ := hq
        refine z_ws ((b_122, zI J 16 v31) :: w49) rfl ?_
        have g52 := zkx_p hsh
        replace hsh := zkx_k hsh
        refine z_iastore (pc' := 227) 0 ((b_122, zI J 16 (va_up v31 (v30).toNat q50)) :: w49) dL_wants_226 rfl (by decide) g52 rfl rfl ?_
        refine z_iinc (pc' := 230) [(12, .int (zi (v30 + (1 : Int)))), (16, .int (zi ((q43 + v14) - (q25 * ((if ((zdiv v30 v15) - (zdiv v13 v15)) < (0 : Int) then (-((zdiv v30 v15) - (zdiv v13 v15))) else ((zdiv v30 v15) - (zdiv v13 v15))) + (if ((zmod v30 v15) - (zmod v13 v15)) < (0 : Int) then (-((zmod v30 v15) - (zmod v13 v15))) else ((zmod v30 v15) - (zmod v13 v15)))))))), (15, .int (zi ((if ((zdiv v30 v15) - (zdiv v13 v15)) < (0 : Int) then (-((zdiv v30 v15) - (zdiv v13 v15))) else ((zdiv v30 v15) - (zdiv v13 v15))) + (if ((zmod v30 v15) - (zmod v13 v15)) < (0 : Int) then (-((zmod v30 v15) - (zmod v13 v15))) else ((zmod v30 v15) - (zmod v13 v15)))))), (14, .int (zi ((zmod v30 v15) - (zmod v13 v15)))), (13, .int (zi ((zdiv v30 v15) - (zdiv v13 v15)))), (0, .ref a_p0), (1, .int (zi v13)), (2, .int (zi v14)), (3, .int (zi v15)), (4, .int (zi v16)), (5, .int (zi v17)), (8, .long (zl q22)), (10, .int (zi q25)), (11, .ref b_122)] 13 dL_wants_227 rfl (by decide) rfl rfl ?_
        refine z_goto (tgt := 129) dL_wants_230 (by decide) ?_
        refine z_lv [(0, .ref a_p0), (1, .int (zi v13)), (2, .int (zi v14)), (3, .int (zi v15)), (4, .int (zi v16)), (5, .int (zi v17)), (8, .long (zl q22)), (10, .int (zi q25)), (11, .ref b_122), (12, .int (zi (v30 + (1 : Int))))] [5, 6, 7, 8, 9, 10, 11, 12, 13, 0] rfl ?_
        exact ih _ _ _ hO49 hsh
      · replace hsh := zif_t q hsh
        refine z_iload (pc' := 217) 0 dL_wants_215 rfl rfl ?_
        refine z_goto (tgt := 226) dL_wants_217 (by decide) ?_
        have g53 := zkx_p hsh
        replace hsh := zkx_k hsh
        refine z_iastore (pc' := 227) 0 ((b_122, zI J 16 (va_up v31 (v30).toNat ((q43 + v14) - (q25 * ((if ((zdiv v30 v15) - (zdiv v13 v15)) < (0 : Int) then (-((zdiv v30 v15) - (zdiv v13 v15))) else ((zdiv v30 v15) - (zdiv v13 v15))) + (if ((zmod v30 v15) - (zmod v13 v15)) < (0 : Int) then (-((zmod v30 v15) - (zmod v13 v15))) else ((zmod v30 v15) - (zmod v13 v15)))))))) :: w45) dL_wants_226 rfl (by decide) g53 rfl rfl ?_
        refine z_iinc (pc' := 230) [(12, .int (zi (v30 + (1 : Int)))), (16, .int (zi ((q43 + v14) - (q25 * ((if ((zdiv v30 v15) - (zdiv v13 v15)) < (0 : Int) then (-((zdiv v30 v15) - (zdiv v13 v15))) else ((zdiv v30 v15) - (zdiv v13 v15))) + (if ((zmod v30 v15) - (zmod v13 v15)) < (0 : Int) then (-((zmod v30 v15) - (zmod v13 v15))) else ((zmod v30 v15) - (zmod v13 v15)))))))), (15, .int (zi ((if ((zdiv v30 v15) - (zdiv v13 v15)) < (0 : Int) then (-((zdiv v30 v15) - (zdiv v13 v15))) else ((zdiv v30 v15) - (zdiv v13 v15))) + (if ((zmod v30 v15) - (zmod v13 v15)) < (0 : Int) then (-((zmod v30 v15) - (zmod v13 v15))) else ((zmod v30 v15) - (zmod v13 v15)))))), (14, .int (zi ((zmod v30 v15) - (zmod v13 v15)))), (13, .int (zi ((zdiv v30 v15) - (zdiv v13 v15)))), (0, .ref a_p0), (1, .int (zi v13)), (2, .int (zi v14)), (3, .int (zi v15)), (4, .int (zi v16)), (5, .int (zi v17)), (8, .long (zl q22)), (10, .int (zi q25)), (11, .ref b_122)] 13 dL_wants_227 rfl (by decide) rfl rfl ?_
        refine z_goto (tgt := 129) dL_wants_230 (by decide) ?_
        refine z_lv [(0, .ref a_p0), (1, .int (zi v13)), (2, .int (zi v14)), (3, .int (zi v15)), (4, .int (zi v16)), (5, .int (zi v17)), (8, .long (zl q22)), (10, .int (zi q25)), (11, .ref b_122), (12, .int (zi (v30 + (1 : Int))))] [5, 6, 7, 8, 9, 10, 11, 12, 13, 0] rfl ?_
        exact ih _ _ _ hO45 hsh
set_option maxRecDepth 100000 in
set_option maxHeartbeats 4000000 in
theorem zl_L_wants_L280 {p : Program} {l : Launch} {e : Env} {s : State} {m : MethodId} {args : Array Value} {below : List Frame} {meth : Method} {c : Code} {A : Nat → Prop} {D : va_G} {J : Nat → ClassId} {F : Nat} {a_p0 : Nat} {v16 : Int} {v55 : (Nat → Int)} {v70 : zO} {b_122 : Nat} {v17 : Int} {q22 : Int} {v69 : Int} {q64 : Int} {res : Int × zO} {k : Int → Int → Option (Int × zO)} (hk : ∀ (v75' : Int) (v76' : Int) (ws_p0' : va_W), cOB J a_p0 v70 ws_p0' → k v75' v76' = some res → Z p l e ({ frames := 6, cells := 1, slots := 16, locals := 152 } : Room) s m args below meth c (MQ below (zQ D J A (fun rv w9 => rv = some (.int (zi res.1)) ∧ cOB J a_p0 res.2 w9)) args s 1 16 A) cL_wants 17 wsL_wants RL D J A (some .boolean) (yL_wants.name, []) 1 16 ((b_122, zI J 16 v55) :: ws_p0') [(0, .ref a_p0), (4, .int (zi v16)), (5, .int (zi v17)), (8, .long (zl q22)), (11, .ref b_122), (12, .int (zi v69)), (13, .int (zi q64)), (14, .int (zi v75'))] 338 []) : ∀ (N : Nat) (v75 : Int) (v76 : Int) (ws_p0 : va_W), cOB J a_p0 v70 ws_p0 → sh_L_wants_L280 F v16 v55 v70 k N v75 v76 = some res → Z p l e ({ frames := 6, cells := 1, slots := 16, locals := 152 } : Room) s m args below meth c (MQ below (zQ D J A (fun rv w9 => rv = some (.int (zi res.1)) ∧ cOB J a_p0 res.2 w9)) args s 1 16 A) cL_wants 17 wsL_wants RL D J A (some .boolean) (yL_wants.name, []) 1 16 ((b_122, zI J 16 v55) :: ws_p0) [(0, .ref a_p0), (4, .int (zi v16)), (5, .int (zi v17)), (8, .long (zl q22)), (11, .ref b_122), (12, .int (zi v69)), (13, .int (zi q64)), (14, .int (zi v75)), (15, .int (zi v76))] 280 [] := by
  intro N
  induction N with
  | zero =>
    intro v75 v76 ws_p0 hO_p0 hsh
    exact absurd hsh (by simp [sh_L_wants_L280])
  | succ N ih =>
    intro v75 v76 ws_p0 hO_p0 hsh
    rw [sh_L_wants_L280] at hsh
    refine z_iload (pc' := 282) 8 dL_wants_280 rfl rfl ?_
    refine z_iload (pc' := 284) 1 dL_wants_282 rfl rfl ?_
    have g77 := zkr_p hsh
    replace hsh := zkr_k hsh
    have g78 := zkr_p hsh
    replace hsh := zkr_k hsh
    refine z_icmp_ge (pc' := 287) (tgt := 338) dL_wants_284 (by decide) g77 g78 rfl (fun q => ?_) (fun q => ?_)
    · replace hsh := zif_f q hsh
      refine z_lv [(0, .ref a_p0), (4, .int (zi v16)), (5, .int (zi v17)), (8, .long (zl q22)), (11, .ref b_122), (12, .int (zi v69)), (13, .int (zi q64)), (14, .int (zi v75))] [0, 1, 2, 3, 4, 5, 6, 7] rfl ?_
      exact hk _ _ _ hO_p0 hsh
    · replace hsh := zif_t q hsh
      refine z_aload_n (pc' := 288) 0 dL_wants_287 rfl rfl rfl ?_
      refine z_iload (pc' := 290) 8 dL_wants_288 rfl rfl ?_
      obtain ⟨q80, h81, hsh⟩ := zbind hsh
      refine z_callSw (pc' := 293) (As := [.ref a_p0, .int (zi v76)]) (rest := []) (wr := [(b_122, zI J 16 v55)]) 2 (oc_drawn_n l D J hO_p0 v76 h81) dL_wants_290 gL_wants_L_drawn rfl rfl rfl (by decide +kernel) ⟨Nat.le_of_ble_eq_true rfl, Nat.le_of_ble_eq_true rfl⟩ ⟨Nat.le_of_ble_eq_true rfl, Nat.le_of_ble_eq_true rfl⟩ (z_spl_sw _ _) rfl rfl (Nat.le_of_ble_eq_true rfl) rfl (fun E w9 hq => hq.elim) (fun rv w79 hq => ?_)
      obtain ⟨rfl, hr79, hO79⟩ := hq
      refine z_ws ((b_122, zI J 16 v55) :: w79) rfl ?_
      refine z_aload (pc' := 295) 4 dL_wants_293 rfl rfl ?_
      refine z_iload (pc' := 297) 8 dL_wants_295 rfl rfl ?_
      have g82 := zkx_p hsh
      replace hsh := zkx_k hsh
      refine z_iaload (pc' := 298) 0 dL_wants_297 rfl (by decide) g82 rfl ?_
      have g83 := zkr_p hsh
      replace hsh := zkr_k hsh
      refine z_icmp_ge (pc' := 301) (tgt := 328) dL_wants_298 (by decide) hr79 g83 rfl (fun q => ?_) (fun q => ?_)
      · replace hsh := zif_f q hsh
        refine z_iload (pc' := 330) 7 dL_wants_328 rfl rfl ?_
        refine z_istore (pc' := 332) [(14, .int (zi v75)), (0, .ref a_p0), (4, .int (zi v16)), (5, .int (zi v17)), (8, .long (zl q22)), (11, .ref b_122), (12, .int (zi v69)), (13, .int (zi q64)), (15, .int (zi v76))] dL_wants_330 (by decide) rfl rfl ?_
        refine z_iinc (pc' := 335) [(15, .int (zi (v76 + (1 : Int)))), (14, .int (zi v75)), (0, .ref a_p0), (4, .int (zi v16)), (5, .int (zi v17)), (8, .long (zl q22)), (11, .ref b_122), (12, .int (zi v69)), (13, .int (zi q64))] 8 dL_wants_332 rfl (by decide) rfl rfl ?_
        refine z_goto (tgt := 280) dL_wants_335 (by decide) ?_
        refine z_lv [(0, .ref a_p0), (4, .int (zi v16)), (5, .int (zi v17)), (8, .long (zl q22)), (11, .ref b_122), (12, .int (zi v69)), (13, .int (zi q64)), (14, .int (zi v75)), (15, .int (zi (v76 + (1 : Int))))] [2, 3, 4, 5, 6, 7, 8, 1, 0] rfl ?_
        exact ih _ _ _ hO79 hsh
      · replace hsh := zif_t q hsh
        refine z_iload (pc' := 303) 7 dL_wants_301 rfl rfl ?_
        refine z_bipush (pc' := 305) dL_wants_303 (by decide) rfl ?_
        have g84 := zkr_p hsh
        replace hsh := zkr_k hsh
        refine z_icmp_eq (pc' := 308) (tgt := 323) dL_wants_305 (by decide) g84 (by decide) rfl (fun q => ?_) (fun q => ?_)
        · replace hsh := zif_t q hsh
          refine z_iload (pc' := 325) 8 dL_wants_323 rfl rfl ?_
          refine z_goto (tgt := 330) dL_wants_325 (by decide) ?_
          refine z_istore (pc' := 332) [(14, .int (zi v76)), (0, .ref a_p0), (4, .int (zi v16)), (5, .int (zi v17)), (8, .long (zl q22)), (11, .ref b_122), (12, .int (zi v69)), (13, .int (zi q64)), (15, .int (zi v76))] dL_wants_330 (by decide) rfl rfl ?_
          refine z_iinc (pc' := 335) [(15, .int (zi (v76 + (1 : Int)))), (14, .int (zi v76)), (0, .ref a_p0), (4, .int (zi v16)), (5, .int (zi v17)), (8, .long (zl q22)), (11, .ref b_122), (12, .int (zi v69)), (13, .int (zi q64))] 8 dL_wants_332 rfl (by decide) rfl rfl ?_
          refine z_goto (tgt := 280) dL_wants_335 (by decide) ?_
          refine z_lv [(0, .ref a_p0), (4, .int (zi v16)), (5, .int (zi v17)), (8, .long (zl q22)), (11, .ref b_122), (12, .int (zi v69)), (13, .int (zi q64)), (14, .int (zi v76)), (15, .int (zi (v76 + (1 : Int))))] [2, 3, 4, 5, 6, 7, 8, 1, 0] rfl ?_
          exact ih _ _ _ hO79 hsh
        · replace hsh := zif_f q hsh
          refine z_aload_n (pc' := 309) 0 dL_wants_308 rfl rfl rfl ?_
          refine z_iload (pc' := 311) 8 dL_wants_309 rfl rfl ?_
          obtain ⟨q86, h87, hsh⟩ := zbind hsh
          refine z_callSw (pc' := 314) (As := [.ref a_p0, .int (zi v76)]) (rest := []) (wr := [(b_122, zI J 16 v55)]) 2 (oc_drawn_n l D J hO79 v76 h87) dL_wants_311 gL_wants_L_drawn rfl rfl rfl (by decide +kernel) ⟨Nat.le_of_ble_eq_true rfl, Nat.le_of_ble_eq_true rfl⟩ ⟨Nat.le_of_ble_eq_true rfl, Nat.le_of_ble_eq_true rfl⟩ (z_spl_sw _ _) rfl rfl (Nat.le_of_ble_eq_true rfl) rfl (fun E w9 hq => hq.elim) (fun rv w85 hq => ?_)
          obtain ⟨rfl, hr85, hO85⟩ := hq
          refine z_ws ((b_122, zI J 16 v55) :: w85) rfl ?_
          refine z_aload_n (pc' := 315) 0 dL_wants_314 rfl rfl rfl ?_
          refine z_iload (pc' := 317) 7 dL_wants_315 rfl rfl ?_
          obtain ⟨q89, h90, hsh⟩ := zbind hsh
          refine z_callSw (pc' := 320) (As := [.ref a_p0, .int (zi v75)]) (rest := [.int (zi q86)]) (wr := [(b_122, zI J 16 v55)]) 2 (oc_drawn_n l D J hO85 v75 h90) dL_wants_317 gL_wants_L_drawn rfl rfl rfl (by decide +kernel) ⟨Nat.le_of_ble_eq_true rfl, Nat.le_of_ble_eq_true rfl⟩ ⟨Nat.le_of_ble_eq_true rfl, Nat.le_of_ble_eq_true rfl⟩ (z_spl_sw _ _) rfl rfl (Nat.le_of_ble_eq_true rfl) rfl (fun E w9 hq => hq.elim) (fun rv w88 hq => ?_)
          obtain ⟨rfl, hr88, hO88⟩ := hq
          refine z_ws ((b_122, zI J 16 v55) :: w88) rfl ?_
          refine z_pmin (c := q86 < q89) (u := v76) (v := v75) (fun y9 => Z p l e ({ frames := 6, cells := 1, slots := 16, locals := 152 } : Room) s m args below meth c (MQ below (zQ D J A (fun rv w9 => rv = some (.int (zi res.1)) ∧ cOB J a_p0 res.2 w9)) args s 1 16 A) cL_wants 17 wsL_wants RL D J A (some .boolean) (yL_wants.name, []) 1 16 ((b_122, zI J 16 v55) :: w88) [(0, .ref a_p0), (4, .int (zi v16)), (5, .int (zi v17)), (8, .long (zl q22)), (11, .ref b_122), (12, .int (zi v69)), (13, .int (zi q64)), (14, .int (zi v75)), (15, .int (zi v76))] 330 [.int (zi y9)]) (fun j1 j2 => ?_) ?_
          · refine z_icmp_ge (pc' := 323) (tgt := 328) dL_wants_320 (by decide) hr85 hr88 rfl (fun q => ?_) (fun q => ?_)
            · refine z_iload (pc' := 330) 7 dL_wants_328 rfl rfl ?_
              exact j2 q
            · refine z_iload (pc' := 325) 8 dL_wants_323 rfl rfl ?_
              refine z_goto (tgt := 330) dL_wants_325 (by decide) ?_
              exact j1 q
          have g91 : -2147483648 ≤ (if q86 < q89 then v76 else v75) ∧ (if q86 < q89 then v76 else v75) ≤ 2147483647 := by (by_cases hif : q86 < q89) <;> first | (rw [if_pos hif]; exact g77) | (rw [if_neg hif]; exact g84)
          refine z_istore (pc' := 332) [(14, .int (zi (if q86 < q89 then v76 else v75))), (0, .ref a_p0), (4, .int (zi v16)), (5, .int (zi v17)), (8, .long (zl q22)), (11, .ref b_122), (12, .int (zi v69)), (13, .int (zi q64)), (15, .int (zi v76))] dL_wants_330 (by decide) rfl rfl ?_
          refine z_iinc (pc' := 335) [(15, .int (zi (v76 + (1 : Int)))), (14, .int (zi (if q86 < q89 then v76 else v75))), (0, .ref a_p0), (4, .int (zi v16)), (5, .int (zi v17)), (8, .long (zl q22)), (11, .ref b_122), (12, .int (zi v69)), (13, .int (zi q64))] 8 dL_wants_332 rfl (by decide) rfl rfl ?_
          refine z_goto (tgt := 280) dL_wants_335 (by decide) ?_
          refine z_lv [(0, .ref a_p0), (4, .int (zi v16)), (5, .int (zi v17)), (8, .long (zl q22)), (11, .ref b_122), (12, .int (zi v69)), (13, .int (zi q64)), (14, .int (zi (if q86 < q89 then v76 else v75))), (15, .int (zi (v76 + (1 : Int))))] [2, 3, 4, 5, 6, 7, 8, 1, 0] rfl ?_
          exact ih _ _ _ hO88 hsh
set_option maxRecDepth 100000 in
set_option maxHeartbeats 4000000 in
theorem zl_L_wants_L261 {p : Program} {l : Launch} {e : Env} {s : State} {m : MethodId} {args : Array Value} {below : List Frame} {meth : Method} {c : Code} {A : Nat → Prop} {D : va_G} {J : Nat → ClassId} {F : Nat} {a_p0 : Nat} {v16 : Int} {v17 : Int} {v55 : (Nat → Int)} {b_122 : Nat} {q22 : Int} {q64 : Int} {res : Int × zO} {k : Int → zO → Option (Int × zO)} (hk : ∀ (v69' : Int) (v70' : zO) (ws_p0' : va_W), cOB J a_p0 v70' ws_p0' → k v69' v70' = some res → Z p l e ({ frames := 6, cells := 1, slots := 16, locals := 152 } : Room) s m args below meth c (MQ below (zQ D J A (fun rv w9 => rv = some (.int (zi res.1)) ∧ cOB J a_p0 res.2 w9)) args s 1 16 A) cL_wants 17 wsL_wants RL D J A (some .boolean) (yL_wants.name, []) 1 16 ((b_122, zI J 16 v55) :: ws_p0') [(0, .ref a_p0), (4, .int (zi v16)), (5, .int (zi v17)), (7, .int (zi (1 : Int))), (8, .long (zl q22)), (11, .ref b_122), (13, .int (zi q64))] 367 []) : ∀ (N : Nat) (v69 : Int) (v70 : zO) (ws_p0 : va_W), cOB J a_p0 v70 ws_p0 → sh_L_wants_L261 F v16 v17 v55 k N v69 v70 = some res → Z p l e ({ frames := 6, cells := 1, slots := 16, locals := 152 } : Room) s m args below meth c (MQ below (zQ D J A (fun rv w9 => rv = some (.int (zi res.1)) ∧ cOB J a_p0 res.2 w9)) args s 1 16 A) cL_wants 17 wsL_wants RL D J A (some .boolean) (yL_wants.name, []) 1 16 ((b_122, zI J 16 v55) :: ws_p0) [(0, .ref a_p0), (4, .int (zi v16)), (5, .int (zi v17)), (7, .int (zi (1 : Int))), (8, .long (zl q22)), (11, .ref b_122), (12, .int (zi v69)), (13, .int (zi q64))] 261 [] := by
  intro N
  induction N with
  | zero =>
    intro v69 v70 ws_p0 hO_p0 hsh
    exact absurd hsh (by simp [sh_L_wants_L261])
  | succ N ih =>
    intro v69 v70 ws_p0 hO_p0 hsh
    rw [sh_L_wants_L261] at hsh
    refine z_iload (pc' := 263) 3 dL_wants_261 rfl rfl ?_
    refine z_if_eq (pc' := 266) (tgt := 367) dL_wants_263 (by decide) (by decide) rfl (fun q => absurd q (by decide)) (fun q => ?_)
    refine z_iload (pc' := 268) 6 dL_wants_266 rfl rfl ?_
    refine z_iload (pc' := 270) 2 dL_wants_268 rfl rfl ?_
    have g71 := zkr_p hsh
    replace hsh := zkr_k hsh
    have g72 := zkr_p hsh
    replace hsh := zkr_k hsh
    refine z_icmp_ge (pc' := 273) (tgt := 367) dL_wants_270 (by decide) g71 g72 rfl (fun q => ?_) (fun q => ?_)
    · replace hsh := zif_f q hsh
      refine z_lv [(0, .ref a_p0), (4, .int (zi v16)), (5, .int (zi v17)), (7, .int (zi (1 : Int))), (8, .long (zl q22)), (11, .ref b_122), (13, .int (zi q64))] [0, 1, 2, 3, 4, 5, 7] rfl ?_
      exact hk _ _ _ hO_p0 hsh
    · replace hsh := zif_t q hsh
      refine z_bipush (pc' := 275) dL_wants_273 (by decide) rfl ?_
      refine z_istore (pc' := 277) [(14, .int (zi (-9 : Int))), (0, .ref a_p0), (4, .int (zi v16)), (5, .int (zi v17)), (7, .int (zi (1 : Int))), (8, .long (zl q22)), (11, .ref b_122), (12, .int (zi v69)), (13, .int (zi q64))] dL_wants_275 (by decide) rfl rfl ?_
      refine z_iconst (pc' := 278) dL_wants_277 rfl ?_
      refine z_istore (pc' := 280) [(15, .int (zi (0 : Int))), (14, .int (zi (-9 : Int))), (0, .ref a_p0), (4, .int (zi v16)), (5, .int (zi v17)), (7, .int (zi (1 : Int))), (8, .long (zl q22)), (11, .ref b_122), (12, .int (zi v69)), (13, .int (zi q64))] dL_wants_278 (by decide) rfl rfl ?_
      refine z_lv [(0, .ref a_p0), (4, .int (zi v16)), (5, .int (zi v17)), (8, .long (zl q22)), (11, .ref b_122), (12, .int (zi v69)), (13, .int (zi q64)), (14, .int (zi (-9 : Int))), (15, .int (zi (0 : Int)))] [2, 3, 4, 6, 7, 8, 9, 1, 0] rfl ?_
      refine zl_L_wants_L280 (F := F) (hk := fun v92 v93 ws94_p0 hO94_p0 hsh => ?_) _ _ _ _ hO_p0 hsh
      refine z_iload (pc' := 340) 7 dL_wants_338 rfl rfl ?_
      refine z_bipush (pc' := 342) dL_wants_340 (by decide) rfl ?_
      have g95 := zkr_p hsh
      replace hsh := zkr_k hsh
      refine z_icmp_eq (pc' := 345) (tgt := 358) dL_wants_342 (by decide) g95 (by decide) rfl (fun q => ?_) (fun q => ?_)
      · replace hsh := zif_t q hsh
        cases hsh
      · replace hsh := zif_f q hsh
        refine z_aload_n (pc' := 346) 0 dL_wants_345 rfl rfl rfl ?_
        refine z_iload (pc' := 348) 7 dL_wants_346 rfl rfl ?_
        obtain ⟨q97, h98, hsh⟩ := zbind hsh
        refine z_callSw (pc' := 351) (As := [.ref a_p0, .int (zi v92)]) (rest := []) (wr := [(b_122, zI J 16 v55)]) 2 (oc_draw_n l D J hO94_p0 v92 h98) dL_wants_348 gL_wants_L_draw rfl rfl rfl (by decide +kernel) ⟨Nat.le_of_ble_eq_true rfl, Nat.le_of_ble_eq_true rfl⟩ ⟨Nat.le_of_ble_eq_true rfl, Nat.le_of_ble_eq_true rfl⟩ (z_spl_sw _ _) rfl rfl (Nat.le_of_ble_eq_true rfl) rfl (fun E w9 hq => hq.elim) (fun rv w96 hq => ?_)
        obtain ⟨rfl, hr96, hO96⟩ := hq
        refine z_ws ((b_122, zI J 16 v55) :: w96) rfl ?_
        refine z_if_lt (pc' := 354) (tgt := 358) dL_wants_351 (by decide) hr96 rfl (fun q => ?_) (fun q => ?_)
        · replace hsh := zif_t q hsh
          cases hsh
        · replace hsh := zif_f q hsh
          refine z_iconst (pc' := 355) dL_wants_354 rfl ?_
          refine z_goto (tgt := 359) dL_wants_355 (by decide) ?_
          refine z_istore (pc' := 361) [(7, .int (zi (1 : Int))), (0, .ref a_p0), (4, .int (zi v16)), (5, .int (zi v17)), (8, .long (zl q22)), (11, .ref b_122), (12, .int (zi v69)), (13, .int (zi q64)), (14, .int (zi v92))] dL_wants_359 (by decide) rfl rfl ?_
          refine z_iinc (pc' := 364) [(12, .int (zi (v69 + (1 : Int)))), (7, .int (zi (1 : Int))), (0, .ref a_p0), (4, .int (zi v16)), (5, .int (zi v17)), (8, .long (zl q22)), (11, .ref b_122), (13, .int (zi q64)), (14, .int (zi v92))] 6 dL_wants_361 rfl (by decide) rfl rfl ?_
          refine z_goto (tgt := 261) dL_wants_364 (by decide) ?_
          refine z_lv [(0, .ref a_p0), (4, .int (zi v16)), (5, .int (zi v17)), (7, .int (zi (1 : Int))), (8, .long (zl q22)), (11, .ref b_122), (12, .int (zi (v69 + (1 : Int)))), (13, .int (zi q64))] [2, 3, 4, 1, 5, 6, 0, 7] rfl ?_
          exact ih _ _ _ hO96 hsh
set_option maxRecDepth 100000 in
set_option maxHeartbeats 4000000 in
theorem zl_L_wants_L370 {p : Program} {l : Launch} {e : Env} {s : State} {m : MethodId} {args : Array Value} {below : List Frame} {meth : Method} {c : Code} {A : Nat → Prop} {D : va_G} {J : Nat → ClassId} {F : Nat} {a_p0 : Nat} {v16 : Int} {v55 : (Nat → Int)} {v100 : zO} {b_122 : Nat} {v17 : Int} {q22 : Int} {q64 : Int} {res : Int × zO} {k : Int → Option (Int × zO)} (hk : ∀ (v103' : Int) (ws_p0' : va_W), cOB J a_p0 v100 ws_p0' → k v103' = some res → Z p l e ({ frames := 6, cells := 1, slots := 16, locals := 152 } : Room) s m args below meth c (MQ below (zQ D J A (fun rv w9 => rv = some (.int (zi res.1)) ∧ cOB J a_p0 res.2 w9)) args s 1 16 A) cL_wants 17 wsL_wants RL D J A (some .boolean) (yL_wants.name, []) 1 16 ((b_122, zI J 16 v55) :: ws_p0') [(0, .ref a_p0), (5, .int (zi v17)), (7, .int (zi (1 : Int))), (8, .long (zl q22)), (13, .int (zi q64))] 409 []) : ∀ (N : Nat) (v103 : Int) (ws_p0 : va_W), cOB J a_p0 v100 ws_p0 → sh_L_wants_L370 F v16 v55 v100 k N v103 = some res → Z p l e ({ frames := 6, cells := 1, slots := 16, locals := 152 } : Room) s m args below meth c (MQ below (zQ D J A (fun rv w9 => rv = some (.int (zi res.1)) ∧ cOB J a_p0 res.2 w9)) args s 1 16 A) cL_wants 17 wsL_wants RL D J A (some .boolean) (yL_wants.name, []) 1 16 ((b_122, zI J 16 v55) :: ws_p0) [(0, .ref a_p0), (4, .int (zi v16)), (5, .int (zi v17)), (7, .int (zi (1 : Int))), (8, .long (zl q22)), (11, .ref b_122), (13, .int (zi q64)), (14, .int (zi v103))] 370 [] := by
  intro N
  induction N with
  | zero =>
    intro v103 ws_p0 hO_p0 hsh
    exact absurd hsh (by simp [sh_L_wants_L370])
  | succ N ih =>
    intro v103 ws_p0 hO_p0 hsh
    rw [sh_L_wants_L370] at hsh
    refine z_iload (pc' := 372) 7 dL_wants_370 rfl rfl ?_
    refine z_iload (pc' := 374) 1 dL_wants_372 rfl rfl ?_
    have g104 := zkr_p hsh
    replace hsh := zkr_k hsh
    have g105 := zkr_p hsh
    replace hsh := zkr_k hsh
    refine z_icmp_ge (pc' := 377) (tgt := 409) dL_wants_374 (by decide) g104 g105 rfl (fun q => ?_) (fun q => ?_)
    · replace hsh := zif_f q hsh
      refine z_lv [(0, .ref a_p0), (5, .int (zi v17)), (7, .int (zi (1 : Int))), (8, .long (zl q22)), (13, .int (zi q64))] [0, 2, 3, 4, 6] rfl ?_
      exact hk _ _ hO_p0 hsh
    · replace hsh := zif_t q hsh
      refine z_iload (pc' := 379) 3 dL_wants_377 rfl rfl ?_
      refine z_if_eq (pc' := 382) (tgt := 400) dL_wants_379 (by decide) (by decide) rfl (fun q => absurd q (by decide)) (fun q => ?_)
      refine z_aload_n (pc' := 383) 0 dL_wants_382 rfl rfl rfl ?_
      refine z_iload (pc' := 385) 7 dL_wants_383 rfl rfl ?_
      obtain ⟨q107, h108, hsh⟩ := zbind hsh
      refine z_callSw (pc' := 388) (As := [.ref a_p0, .int (zi v103)]) (rest := []) (wr := [(b_122, zI J 16 v55)]) 2 (oc_drawn_n l D J hO_p0 v103 h108) dL_wants_385 gL_wants_L_drawn rfl rfl rfl (by decide +kernel) ⟨Nat.le_of_ble_eq_true rfl, Nat.le_of_ble_eq_true rfl⟩ ⟨Nat.le_of_ble_eq_true rfl, Nat.le_of_ble_eq_true rfl⟩ (z_spl_sw _ _) rfl rfl (Nat.le_of_ble_eq_true rfl) rfl (fun E w9 hq => hq.elim) (fun rv w106 hq => ?_)
      obtain ⟨rfl, hr106, hO106⟩ := hq
      refine z_ws ((b_122, zI J 16 v55) :: w106) rfl ?_
      refine z_aload (pc' := 390) 5 dL_wants_388 rfl rfl ?_
      refine z_iload (pc' := 392) 7 dL_wants_390 rfl rfl ?_
      have g109 := zkx_p hsh
      replace hsh := zkx_k hsh
      refine z_iaload (pc' := 393) 0 dL_wants_392 rfl (by decide) g109 rfl ?_
      have g110 := zkr_p hsh
      replace hsh := zkr_k hsh
      refine z_icmp_ne (pc' := 396) (tgt := 400) dL_wants_393 (by decide) hr106 g110 rfl (fun q => ?_) (fun q => ?_)
      · replace hsh := zif_f q hsh
        cases hsh
      · replace hsh := zif_t q hsh
        refine z_iconst (pc' := 397) dL_wants_396 rfl ?_
        refine z_goto (tgt := 401) dL_wants_397 (by decide) ?_
        refine z_istore (pc' := 403) [(7, .int (zi (1 : Int))), (0, .ref a_p0), (4, .int (zi v16)), (5, .int (zi v17)), (8, .long (zl q22)), (11, .ref b_122), (13, .int (zi q64)), (14, .int (zi v103))] dL_wants_401 (by decide) rfl rfl ?_
        refine z_iinc (pc' := 406) [(14, .int (zi (v103 + (1 : Int)))), (7, .int (zi (1 : Int))), (0, .ref a_p0), (4, .int (zi v16)), (5, .int (zi v17)), (8, .long (zl q22)), (11, .ref b_122), (13, .int (zi q64))] 7 dL_wants_403 rfl (by decide) rfl rfl ?_
        refine z_goto (tgt := 370) dL_wants_406 (by decide) ?_
        refine z_lv [(0, .ref a_p0), (4, .int (zi v16)), (5, .int (zi v17)), (7, .int (zi (1 : Int))), (8, .long (zl q22)), (11, .ref b_122), (13, .int (zi q64)), (14, .int (zi (v103 + (1 : Int))))] [2, 3, 4, 1, 5, 6, 7, 0] rfl ?_
        exact ih _ _ hO106 hsh
set_option maxRecDepth 100000 in
set_option maxHeartbeats 4000000 in
theorem zj_L_wants_J87 {p : Program} {l : Launch} {e : Env} {s : State} {m : MethodId} {args : Array Value} {below : List Frame} {meth : Method} {c : Code} {A : Nat → Prop} {D : va_G} {J : Nat → ClassId} {F : Nat} {a_p0 : Nat}  {v13 : Int} {v14 : Int} {v15 : Int} {v16 : Int} {v17 : Int} {B18 : zO} {ws_p0 : va_W} {res : Int × zO} (hO_p0 : cOB J a_p0 B18 ws_p0) (hsh : sh_L_wants_J87 F v13 v14 v15 v16 v17 B18 = some res) : Z p l e ({ frames := 6, cells := 1, slots := 16, locals := 152 } : Room) s m args below meth c (MQ below (zQ D J A (fun rv w9 => rv = some (.int (zi res.1)) ∧ cOB J a_p0 res.2 w9)) args s 1 16 A) cL_wants 17 wsL_wants RL D J A (some .boolean) (yL_wants.name, []) 0 0 ws_p0 [(0, .ref a_p0), (1, .int (zi v13)), (2, .int (zi v14)), (3, .int (zi v15)), (4, .int (zi v16)), (5, .int (zi v17)), (7, .int (zi (1 : Int)))] 87 [] := by
  unfold sh_L_wants_J87 at hsh
  refine z_iload (pc' := 89) 6 dL_wants_87 rfl rfl ?_
  refine z_if_eq (pc' := 92) (tgt := 105) dL_wants_89 (by decide) (by decide) rfl (fun q => absurd q (by decide)) (fun q => ?_)
  refine z_iload (pc' := 94) 5 dL_wants_92 rfl rfl ?_
  refine z_bipush (pc' := 96) dL_wants_94 (by decide) rfl ?_
  have g19 := zkr_p hsh
  replace hsh := zkr_k hsh
  refine z_icmp_eq (pc' := 99) (tgt := 105) dL_wants_96 (by decide) g19 (by decide) rfl (fun q => ?_) (fun q => ?_)
  · replace hsh := zif_t q hsh
    refine z_iload (pc' := 107) 6 dL_wants_105 rfl rfl ?_
    refine z_widen 1 16 (by decide) (by decide) ?_
    cases hsh
    exact z_zret rfl (by decide) dL_wants_107 ⟨rfl, hO_p0⟩
  · replace hsh := zif_f q hsh
    refine z_iload_n (pc' := 100) 2 dL_wants_99 rfl rfl rfl ?_
    refine z_bipush (pc' := 102) dL_wants_100 (by decide) rfl ?_
    have g20 := zkr_p hsh
    replace hsh := zkr_k hsh
    refine z_icmp_le (pc' := 105) (tgt := 108) dL_wants_102 (by decide) g20 (by decide) rfl (fun q => ?_) (fun q => ?_)
    · replace hsh := zif_f q hsh
      refine z_aload_n (pc' := 109) 0 dL_wants_108 rfl rfl rfl ?_
      obtain ⟨q22, h23, hsh⟩ := zbind hsh
      refine z_callS (pc' := 112) (As := [.ref a_p0]) (rest := []) (wr := []) 1 (zc_L_now l D J F hO_p0 q22 h23) dL_wants_109 gL_wants_L_now rfl rfl rfl (by decide +kernel) ⟨Nat.le_of_ble_eq_true rfl, Nat.le_of_ble_eq_true rfl⟩ ⟨Nat.le_of_ble_eq_true rfl, Nat.le_of_ble_eq_true rfl⟩ (z_spl_nil _) rfl rfl (Nat.le_of_ble_eq_true rfl) rfl (fun rv w21 hq => ?_)
      obtain ⟨rfl, hO21⟩ := hq
      refine z_ws w21 rfl ?_
      refine z_lstore (pc' := 114) [(8, .long (zl q22)), (0, .ref a_p0), (1, .int (zi v13)), (2, .int (zi v14)), (3, .int (zi v15)), (4, .int (zi v16)), (5, .int (zi v17)), (7, .int (zi (1 : Int)))] dL_wants_112 (by decide) rfl rfl ?_
      refine z_aload_n (pc' := 115) 1 dL_wants_114 rfl rfl rfl ?_
      obtain ⟨q25, h26, hsh⟩ := zbind hsh
      obtain ⟨fs24, h0_24⟩ := hO21.h0
      refine z_callV (pc' := 118) (C := RX8) (As := []) (rest := []) (wr := []) 0 (oc_bound_d l D J hO21 h26) dL_wants_115 gL_wants_X8_bound rfl rfl rfl (by decide +kernel) ⟨Nat.le_of_ble_eq_true rfl, Nat.le_of_ble_eq_true rfl⟩ ⟨Nat.le_of_ble_eq_true rfl, Nat.le_of_ble_eq_true rfl⟩ (z_spl_nil _) h0_24 rfl rfl rfl (Nat.le_of_ble_eq_true rfl) rfl (fun rv w24 hq => ?_)
      obtain ⟨rfl, hr24, hO24⟩ := hq
      refine z_ws w24 rfl ?_
      refine z_istore (pc' := 120) [(10, .int (zi q25)), (8, .long (zl q22)), (0, .ref a_p0), (1, .int (zi v13)), (2, .int (zi v14)), (3, .int (zi v15)), (4, .int (zi v16)), (5, .int (zi v17)), (7, .int (zi (1 : Int)))] dL_wants_118 (by decide) rfl rfl ?_
      refine z_bipush (pc' := 122) dL_wants_120 (by decide) rfl ?_
      refine z_newarr_int (pc' := 124) 16 1 16 dL_wants_122 mL_wants_aint rfl (by decide) rfl rfl (Nat.le_of_ble_eq_true rfl) (Nat.le_of_ble_eq_true rfl) rfl (fun b_122 => ?_)
      refine z_sw ?_
      refine z_ws ((b_122, zI J 16 (fun _ => 0)) :: w24) rfl ?_
      refine z_astore (pc' := 126) [(11, .ref b_122), (10, .int (zi q25)), (8, .long (zl q22)), (0, .ref a_p0), (1, .int (zi v13)), (2, .int (zi v14)), (3, .int (zi v15)), (4, .int (zi v16)), (5, .int (zi v17)), (7, .int (zi (1 : Int)))] dL_wants_124 (by decide) rfl rfl ?_
      refine z_iconst (pc' := 127) dL_wants_126 rfl ?_
      refine z_istore (pc' := 129) [(12, .int (zi (0 : Int))), (11, .ref b_122), (10, .int (zi q25)), (8, .long (zl q22)), (0, .ref a_p0), (1, .int (zi v13)), (2, .int (zi v14)), (3, .int (zi v15)), (4, .int (zi v16)), (5, .int (zi v17)), (7, .int (zi (1 : Int)))] dL_wants_127 (by decide) rfl rfl ?_
      refine z_lv [(0, .ref a_p0), (1, .int (zi v13)), (2, .int (zi v14)), (3, .int (zi v15)), (4, .int (zi v16)), (5, .int (zi v17)), (8, .long (zl q22)), (10, .int (zi q25)), (11, .ref b_122), (12, .int (zi (0 : Int)))] [4, 5, 6, 7, 8, 9, 3, 2, 1, 0] rfl ?_
      refine zl_L_wants_L129 (F := F) (hk := fun v54 v55 ws56_p0 hO56_p0 hsh => ?_) _ _ _ _ hO24 hsh
      refine z_aload_n (pc' := 234) 0 dL_wants_233 rfl rfl rfl ?_
      refine z_iconst (pc' := 235) dL_wants_234 rfl ?_
      obtain ⟨q58, h59, hsh⟩ := zbind hsh
      refine z_callSw (pc' := 238) (As := [.ref a_p0, .int (zi (1 : Int))]) (rest := []) (wr := [(b_122, zI J 16 v55)]) 2 (oc_save_n l D J hO56_p0 (1 : Int) h59) dL_wants_235 gL_wants_L_save rfl rfl rfl (by decide +kernel) ⟨Nat.le_of_ble_eq_true rfl, Nat.le_of_ble_eq_true rfl⟩ ⟨Nat.le_of_ble_eq_true rfl, Nat.le_of_ble_eq_true rfl⟩ (z_spl_sw _ _) rfl rfl (Nat.le_of_ble_eq_true rfl) rfl (fun E w9 hq => hq.elim) (fun rv w57 hq => ?_)
      obtain ⟨rfl, hr57, hO57⟩ := hq
      refine z_ws ((b_122, zI J 16 v55) :: w57) rfl ?_
      refine z_aload_n (pc' := 239) 0 dL_wants_238 rfl rfl rfl ?_
      obtain ⟨q61, h62, hsh⟩ := zbind hsh
      obtain ⟨fs60, h0_60⟩ := hO57.h0
      refine z_callV (pc' := 242) (C := RX8) (As := []) (rest := [.int (zi q58.1)]) (wr := [(b_122, zI J 16 v55)]) 0 (oc_totalBuckets_d l D J hO57 h62) dL_wants_239 gL_wants_X8_totalBuckets rfl rfl rfl (by decide +kernel) ⟨Nat.le_of_ble_eq_true rfl, Nat.le_of_ble_eq_true rfl⟩ ⟨Nat.le_of_ble_eq_true rfl, Nat.le_of_ble_eq_true rfl⟩ (z_spl_sw _ _) h0_60 rfl rfl rfl (Nat.le_of_ble_eq_true rfl) rfl (fun rv w60 hq => ?_)
      obtain ⟨rfl, hr60, hO60⟩ := hq
      refine z_ws ((b_122, zI J 16 v55) :: w60) rfl ?_
      refine z_icmp_ne (pc' := 245) (tgt := 249) dL_wants_242 (by decide) hr57 hr60 rfl (fun q => ?_) (fun q => ?_)
      · replace hsh := zif_f q hsh
        cases hsh
      · replace hsh := zif_t q hsh
        refine z_iconst (pc' := 246) dL_wants_245 rfl ?_
        refine z_goto (tgt := 250) dL_wants_246 (by decide) ?_
        refine z_istore (pc' := 252) [(7, .int (zi (1 : Int))), (0, .ref a_p0), (4, .int (zi v16)), (5, .int (zi v17)), (8, .long (zl q22)), (11, .ref b_122)] dL_wants_250 (by decide) rfl rfl ?_
        refine z_iconst (pc' := 253) dL_wants_252 rfl ?_
        refine z_istore (pc' := 255) [(12, .int (zi (0 : Int))), (7, .int (zi (1 : Int))), (0, .ref a_p0), (4, .int (zi v16)), (5, .int (zi v17)), (8, .long (zl q22)), (11, .ref b_122)] dL_wants_253 (by decide) rfl rfl ?_
        refine z_aload_n (pc' := 256) 2 dL_wants_255 rfl rfl rfl ?_
        obtain ⟨q64, h65, hsh⟩ := zbind hsh
        obtain ⟨fs63, h0_63⟩ := hO60.h0
        refine z_callV (pc' := 259) (C := RX8) (As := []) (rest := []) (wr := [(b_122, zI J 16 v55)]) 0 (oc_totalBuckets_d l D J hO60 h65) dL_wants_256 gL_wants_X8_totalBuckets rfl rfl rfl (by decide +kernel) ⟨Nat.le_of_ble_eq_true rfl, Nat.le_of_ble_eq_true rfl⟩ ⟨Nat.le_of_ble_eq_true rfl, Nat.le_of_ble_eq_true rfl⟩ (z_spl_sw _ _) h0_63 rfl rfl rfl (Nat.le_of_ble_eq_true rfl) rfl (fun rv w63 hq => ?_)
        obtain ⟨rfl, hr63, hO63⟩ := hq
        refine z_ws ((b_122, zI J 16 v55) :: w63) rfl ?_
        refine z_istore (pc' := 261) [(13, .int (zi q64)), (12, .int (zi (0 : Int))), (7, .int (zi (1 : Int))), (0, .ref a_p0), (4, .int (zi v16)), (5, .int (zi v17)), (8, .long (zl q22)), (11, .ref b_122)] dL_wants_259 (by decide) rfl rfl ?_
        refine z_lv [(0, .ref a_p0), (4, .int (zi v16)), (5, .int (zi v17)), (7, .int (zi (1 : Int))), (8, .long (zl q22)), (11, .ref b_122), (12, .int (zi (0 : Int))), (13, .int (zi q64))] [3, 4, 5, 2, 6, 7, 1, 0] rfl ?_
        refine zl_L_wants_L261 (F := F) (hk := fun v99 v100 ws101_p0 hO101_p0 hsh => ?_) _ _ _ _ hO63 hsh
        refine z_iconst (pc' := 368) dL_wants_367 rfl ?_
        refine z_istore (pc' := 370) [(14, .int (zi (0 : Int))), (0, .ref a_p0), (4, .int (zi v16)), (5, .int (zi v17)), (7, .int (zi (1 : Int))), (8, .long (zl q22)), (11, .ref b_122), (13, .int (zi q64))] dL_wants_368 (by decide) rfl rfl ?_
        refine z_lv [(0, .ref a_p0), (4, .int (zi v16)), (5, .int (zi v17)), (7, .int (zi (1 : Int))), (8, .long (zl q22)), (11, .ref b_122), (13, .int (zi q64)), (14, .int (zi (0 : Int)))] [1, 2, 3, 4, 5, 6, 7, 0] rfl ?_
        refine zl_L_wants_L370 (F := F) (hk := fun v111 ws112_p0 hO112_p0 hsh => ?_) _ _ _ hO101_p0 hsh
        refine z_iload (pc' := 411) 2 dL_wants_409 rfl rfl ?_
        refine z_if_eq (pc' := 414) (tgt := 450) dL_wants_411 (by decide) (by decide) rfl (fun q => absurd q (by decide)) (fun q => ?_)
        refine z_aload_n (pc' := 415) 0 dL_wants_414 rfl rfl rfl ?_
        obtain ⟨q114, h115, hsh⟩ := zbind hsh
        obtain ⟨fs113, h0_113⟩ := hO112_p0.h0
        refine z_callV (pc' := 418) (C := RX8) (As := []) (rest := []) (wr := [(b_122, zI J 16 v55)]) 0 (oc_totalBuckets_d l D J hO112_p0 h115) dL_wants_415 gL_wants_X8_totalBuckets rfl rfl rfl (by decide +kernel) ⟨Nat.le_of_ble_eq_true rfl, Nat.le_of_ble_eq_true rfl⟩ ⟨Nat.le_of_ble_eq_true rfl, Nat.le_of_ble_eq_true rfl⟩ (z_spl_sw _ _) h0_113 rfl rfl rfl (Nat.le_of_ble_eq_true rfl) rfl (fun rv w113 hq => ?_)
        obtain ⟨rfl, hr113, hO113⟩ := hq
        refine z_ws ((b_122, zI J 16 v55) :: w113) rfl ?_
        refine z_iload (pc' := 420) 4 dL_wants_418 rfl rfl ?_
        refine z_iload (pc' := 422) 1 dL_wants_420 rfl rfl ?_
        refine z_iadd (pc' := 423) dL_wants_422 rfl ?_
        have g116 := zkr_p hsh
        replace hsh := zkr_k hsh
        refine z_icmp_ne (pc' := 426) (tgt := 450) dL_wants_423 (by decide) hr113 g116 rfl (fun q => ?_) (fun q => ?_)
        · replace hsh := zif_f q hsh
          cases hsh
        · replace hsh := zif_t q hsh
          refine z_aload_n (pc' := 427) 0 dL_wants_426 rfl rfl rfl ?_
          refine z_iconst (pc' := 428) dL_wants_427 rfl ?_
          obtain ⟨q118, h119, hsh⟩ := zbind hsh
          refine z_callSw (pc' := 431) (As := [.ref a_p0, .int (zi (1 : Int))]) (rest := []) (wr := [(b_122, zI J 16 v55)]) 2 (oc_restore_n l D J hO113 (1 : Int) h119) dL_wants_428 gL_wants_L_restore rfl rfl rfl (by decide +kernel) ⟨Nat.le_of_ble_eq_true rfl, Nat.le_of_ble_eq_true rfl⟩ ⟨Nat.le_of_ble_eq_true rfl, Nat.le_of_ble_eq_true rfl⟩ (z_spl_sw _ _) rfl rfl (Nat.le_of_ble_eq_true rfl) rfl (fun E w9 hq => hq.elim) (fun rv w117 hq => ?_)
          obtain ⟨rfl, hr117, hO117⟩ := hq
          refine z_ws ((b_122, zI J 16 v55) :: w117) rfl ?_
          refine z_iload (pc' := 433) 4 dL_wants_431 rfl rfl ?_
          refine z_icmp_ne (pc' := 436) (tgt := 450) dL_wants_433 (by decide) hr117 hr63 rfl (fun q => ?_) (fun q => ?_)
          · replace hsh := zif_f q hsh
            cases hsh
          · replace hsh := zif_t q hsh
            refine z_aload_n (pc' := 437) 0 dL_wants_436 rfl rfl rfl ?_
            obtain ⟨q121, h122, hsh⟩ := zbind hsh
            refine z_callS (pc' := 440) (As := [.ref a_p0]) (rest := []) (wr := [(b_122, zI J 16 v55)]) 1 (zc_L_now l D J F hO117 q121 h122) dL_wants_437 gL_wants_L_now rfl rfl rfl (by decide +kernel) ⟨Nat.le_of_ble_eq_true rfl, Nat.le_of_ble_eq_true rfl⟩ ⟨Nat.le_of_ble_eq_true rfl, Nat.le_of_ble_eq_true rfl⟩ (z_spl_sw _ _) rfl rfl (Nat.le_of_ble_eq_true rfl) rfl (fun rv w120 hq => ?_)
            obtain ⟨rfl, hO120⟩ := hq
            refine z_ws ((b_122, zI J 16 v55) :: w120) rfl ?_
            refine z_lload (pc' := 442) 3 dL_wants_440 rfl rfl ?_
            have g123 := zkl_p hsh
            replace hsh := zkl_k hsh
            have g124 := zkl_p hsh
            replace hsh := zkl_k hsh
            refine z_lcmp_ne (pc' := 446) (tgt := 450) dL_wants_442 dL_wants_443 (by decide) g123 g124 rfl (fun q => ?_) (fun q => ?_)
            · replace hsh := zif_f q hsh
              cases hsh
            · replace hsh := zif_t q hsh
              refine z_iconst (pc' := 447) dL_wants_446 rfl ?_
              refine z_goto (tgt := 451) dL_wants_447 (by decide) ?_
              refine z_drop ?_
              cases hsh
              exact z_zret rfl (by decide) dL_wants_451 ⟨rfl, hO120⟩
    · replace hsh := zif_t q hsh
      refine z_iload (pc' := 107) 6 dL_wants_105 rfl rfl ?_
      refine z_widen 1 16 (by decide) (by decide) ?_
      cases hsh
      exact z_zret rfl (by decide) dL_wants_107 ⟨rfl, hO_p0⟩
set_option maxRecDepth 100000 in
set_option maxHeartbeats 4000000 in
theorem zc_L_wants (l : Launch) (D : va_G) (J : Nat → ClassId) (F : Nat) {a_p0 : Nat} {A_p0 : zO} {ws_p0 : va_W} (hO_p0 : cOB J a_p0 A_p0 ws_p0) (p1 : Int) (p2 : Int) (p3 : Int) (res : Int × zO) (hsh : sh_L_wants F A_p0 p1 p2 p3 = some res) : ZM l D J yL_wants wsL_wants ({ frames := 6, cells := 1, slots := 16, locals := 152 } : Room) 1 16 [.ref a_p0, .int (zi p1), .int (zi p2), .int (zi p3)] ws_p0 (fun rv w9 => rv = some (.int (zi res.1)) ∧ cOB J a_p0 res.2 w9) := by
  refine z_ofZ (cc := cL_wants) (maxL := 17) (ret := (some .boolean)) 1 16 (by decide) rfl (Nat.le_of_ble_eq_true rfl) [(0, .ref a_p0), (1, .int (zi p1)), (2, .int (zi p2)), (3, .int (zi p3))] rfl ?_
  intro p e s m args below meth c A
  unfold sh_L_wants at hsh
  refine z_aload_n (pc' := 1) 0 dL_wants_0 rfl rfl rfl ?_
  obtain ⟨q2, h3, hsh⟩ := zbind hsh
  obtain ⟨fs1, h0_1⟩ := hO_p0.h0
  refine z_callV (pc' := 4) (C := RX8) (As := []) (rest := []) (wr := []) 0 (oc_pointCount_d l D J hO_p0 h3) dL_wants_1 gL_wants_X8_pointCount rfl rfl rfl (by decide +kernel) ⟨Nat.le_of_ble_eq_true rfl, Nat.le_of_ble_eq_true rfl⟩ ⟨Nat.le_of_ble_eq_true rfl, Nat.le_of_ble_eq_true rfl⟩ (z_spl_nil _) h0_1 rfl rfl rfl (Nat.le_of_ble_eq_true rfl) rfl (fun rv w1 hq => ?_)
  obtain ⟨rfl, hr1, hO1⟩ := hq
  refine z_ws w1 rfl ?_
  refine z_istore (pc' := 6) [(4, .int (zi q2)), (0, .ref a_p0), (1, .int (zi p1)), (2, .int (zi p2)), (3, .int (zi p3))] dL_wants_4 (by decide) rfl rfl ?_
  refine z_aload_n (pc' := 7) 1 dL_wants_6 rfl rfl rfl ?_
  refine z_iload_n (pc' := 8) 2 dL_wants_7 rfl rfl rfl ?_
  refine z_iload_n (pc' := 9) 3 dL_wants_8 rfl rfl rfl ?_
  obtain ⟨q5, h6, hsh⟩ := zbind hsh
  refine z_callSw (pc' := 12) (As := [.ref a_p0, .int (zi p1), .int (zi p2)]) (rest := []) (wr := []) 3 (oc_bucketsFor_n l D J hO1 p1 p2 h6) dL_wants_9 gL_wants_L_bucketsFor rfl rfl rfl (by decide +kernel) ⟨Nat.le_of_ble_eq_true rfl, Nat.le_of_ble_eq_true rfl⟩ ⟨Nat.le_of_ble_eq_true rfl, Nat.le_of_ble_eq_true rfl⟩ (z_spl_nil _) rfl rfl (Nat.le_of_ble_eq_true rfl) rfl (fun E w9 hq => hq.elim) (fun rv w4 hq => ?_)
  obtain ⟨rfl, hr4, hO4⟩ := hq
  refine z_ws w4 rfl ?_
  refine z_istore (pc' := 14) [(5, .int (zi q5)), (4, .int (zi q2)), (0, .ref a_p0), (1, .int (zi p1)), (2, .int (zi p2)), (3, .int (zi p3))] dL_wants_12 (by decide) rfl rfl ?_
  refine z_aload_n (pc' := 15) 2 dL_wants_14 rfl rfl rfl ?_
  refine z_iload_n (pc' := 16) 3 dL_wants_15 rfl rfl rfl ?_
  obtain ⟨q8, h9, hsh⟩ := zbind hsh
  refine z_callSw (pc' := 19) (As := [.ref a_p0, .int (zi p1)]) (rest := []) (wr := []) 2 (oc_most_n l D J hO4 p1 h9) dL_wants_16 gL_wants_L_most rfl rfl rfl (by decide +kernel) ⟨Nat.le_of_ble_eq_true rfl, Nat.le_of_ble_eq_true rfl⟩ ⟨Nat.le_of_ble_eq_true rfl, Nat.le_of_ble_eq_true rfl⟩ (z_spl_nil _) rfl rfl (Nat.le_of_ble_eq_true rfl) rfl (fun E w9 hq => hq.elim) (fun rv w7 hq => ?_)
  obtain ⟨rfl, hr7, hO7⟩ := hq
  refine z_ws w7 rfl ?_
  refine z_istore (pc' := 21) [(6, .int (zi q8)), (5, .int (zi q5)), (4, .int (zi q2)), (0, .ref a_p0), (1, .int (zi p1)), (2, .int (zi p2)), (3, .int (zi p3))] dL_wants_19 (by decide) rfl rfl ?_
  refine z_iload (pc' := 23) 1 dL_wants_21 rfl rfl ?_
  refine z_bipush (pc' := 25) dL_wants_23 (by decide) rfl ?_
  refine z_pmin (c := q5 = (-9 : Int)) (u := (1 : Int)) (v := (0 : Int)) (fun y9 => Z p l e ({ frames := 6, cells := 1, slots := 16, locals := 152 } : Room) s m args below meth c (MQ below (zQ D J A (fun rv w9 => rv = some (.int (zi res.1)) ∧ cOB J a_p0 res.2 w9)) args s 1 16 A) cL_wants 17 wsL_wants RL D J A (some .boolean) (yL_wants.name, []) 0 0 w7 [(6, .int (zi q8)), (5, .int (zi q5)), (4, .int (zi q2)), (0, .ref a_p0), (1, .int (zi p1)), (2, .int (zi p2)), (3, .int (zi p3))] 33 [.int (zi y9)]) (fun j1 j2 => ?_) ?_
  · refine z_icmp_ne (pc' := 28) (tgt := 32) dL_wants_25 (by decide) hr4 (by decide) rfl (fun q => ?_) (fun q => ?_)
    · refine z_iconst (pc' := 33) dL_wants_32 rfl ?_
      exact j2 q
    · refine z_iconst (pc' := 29) dL_wants_28 rfl ?_
      refine z_goto (tgt := 33) dL_wants_29 (by decide) ?_
      exact j1 q
  have g10 : -2147483648 ≤ (if q5 = (-9 : Int) then (1 : Int) else (0 : Int)) ∧ (if q5 = (-9 : Int) then (1 : Int) else (0 : Int)) ≤ 2147483647 := by (by_cases hif : q5 = (-9 : Int)) <;> first | (rw [if_pos hif]; exact (by decide)) | (rw [if_neg hif]; exact (by decide))
  refine z_iload_n (pc' := 34) 5 dL_wants_33 rfl rfl rfl ?_
  refine z_iload (pc' := 36) 0 dL_wants_34 rfl rfl ?_
  have g11 := zkr_p hsh
  replace hsh := zkr_k hsh
  refine z_pmin (c := q8 < p2) (u := (1 : Int)) (v := (0 : Int)) (fun y9 => Z p l e ({ frames := 6, cells := 1, slots := 16, locals := 152 } : Room) s m args below meth c (MQ below (zQ D J A (fun rv w9 => rv = some (.int (zi res.1)) ∧ cOB J a_p0 res.2 w9)) args s 1 16 A) cL_wants 17 wsL_wants RL D J A (some .boolean) (yL_wants.name, []) 0 0 w7 [(6, .int (zi q8)), (5, .int (zi q5)), (4, .int (zi q2)), (0, .ref a_p0), (1, .int (zi p1)), (2, .int (zi p2)), (3, .int (zi p3))] 44 [.int (zi y9), .int (zi (if q5 = (-9 : Int) then (1 : Int) else (0 : Int)))]) (fun j1 j2 => ?_) ?_
  · refine z_icmp_le (pc' := 39) (tgt := 43) dL_wants_36 (by decide) g11 hr7 rfl (fun q => ?_) (fun q => ?_)
    · refine z_iconst (pc' := 44) dL_wants_43 rfl ?_
      exact j2 q
    · refine z_iconst (pc' := 40) dL_wants_39 rfl ?_
      refine z_goto (tgt := 44) dL_wants_40 (by decide) ?_
      exact j1 q
  have g12 : -2147483648 ≤ (if q8 < p2 then (1 : Int) else (0 : Int)) ∧ (if q8 < p2 then (1 : Int) else (0 : Int)) ≤ 2147483647 := by (by_cases hif : q8 < p2) <;> first | (rw [if_pos hif]; exact (by decide)) | (rw [if_neg hif]; exact (by decide))
  refine z_icmp_ne (pc' := 47) (tgt := 84) dL_wants_44 (by decide) g10 g12 rfl (fun q => ?_) (fun q => ?_)
  · replace hsh := zif_f q hsh
    cases hsh
  · replace hsh := zif_t q hsh
    refine z_iload_n (pc' := 48) 5 dL_wants_47 rfl rfl rfl ?_
    refine z_iconst (pc' := 49) dL_wants_48 rfl ?_
    refine z_icmp_ne (pc' := 52) (tgt := 80) dL_wants_49 (by decide) g11 (by decide) rfl (fun q => ?_) (fun q => ?_)
    · replace hsh := zif_f q hsh
      refine z_iconst (pc' := 81) dL_wants_80 rfl ?_
      refine z_goto (tgt := 85) dL_wants_81 (by decide) ?_
      refine z_istore (pc' := 87) [(7, .int (zi (1 : Int))), (6, .int (zi q8)), (5, .int (zi q5)), (4, .int (zi q2)), (0, .ref a_p0), (1, .int (zi p1)), (2, .int (zi p2)), (3, .int (zi p3))] dL_wants_85 (by decide) rfl rfl ?_
      refine z_lv [(0, .ref a_p0), (1, .int (zi p1)), (2, .int (zi p2)), (3, .int (zi p3)), (4, .int (zi q2)), (5, .int (zi q5)), (7, .int (zi (1 : Int)))] [4, 5, 6, 7, 3, 2, 0] rfl ?_
      exact zj_L_wants_J87 hO7 hsh
    · replace hsh := zif_t q hsh
      refine z_iload (pc' := 54) 1 dL_wants_52 rfl rfl ?_
      refine z_iconst (pc' := 55) dL_wants_54 rfl ?_
      refine z_pmin (c := q5 = (1 : Int)) (u := (1 : Int)) (v := (0 : Int)) (fun y9 => Z p l e ({ frames := 6, cells := 1, slots := 16, locals := 152 } : Room) s m args below meth c (MQ below (zQ D J A (fun rv w9 => rv = some (.int (zi res.1)) ∧ cOB J a_p0 res.2 w9)) args s 1 16 A) cL_wants 17 wsL_wants RL D J A (some .boolean) (yL_wants.name, []) 0 0 w7 [(6, .int (zi q8)), (5, .int (zi q5)), (4, .int (zi q2)), (0, .ref a_p0), (1, .int (zi p1)), (2, .int (zi p2)), (3, .int (zi p3))] 63 [.int (zi y9)]) (fun j1 j2 => ?_) ?_
      · refine z_icmp_ne (pc' := 58) (tgt := 62) dL_wants_55 (by decide) hr4 (by decide) rfl (fun q => ?_) (fun q => ?_)
        · refine z_iconst (pc' := 63) dL_wants_62 rfl ?_
          exact j2 q
        · refine z_iconst (pc' := 59) dL_wants_58 rfl ?_
          refine z_goto (tgt := 63) dL_wants_59 (by decide) ?_
          exact j1 q
      have g125 : -2147483648 ≤ (if q5 = (1 : Int) then (1 : Int) else (0 : Int)) ∧ (if q5 = (1 : Int) then (1 : Int) else (0 : Int)) ≤ 2147483647 := by (by_cases hif : q5 = (1 : Int)) <;> first | (rw [if_pos hif]; exact (by decide)) | (rw [if_neg hif]; exact (by decide))
      refine z_aload_n (pc' := 64) 3 dL_wants_63 rfl rfl rfl ?_
      refine z_iload_n (pc' := 65) 4 dL_wants_64 rfl rfl rfl ?_
      obtain ⟨q127, h128, hsh⟩ := zbind hsh
      refine z_callSw (pc' := 68) (As := [.ref a_p0, .int (zi p1)]) (rest := [.int (zi (if q5 = (1 : Int) then (1 : Int) else (0 : Int)))]) (wr := []) 2 (oc_ready_n l D J hO7 p1 h128) dL_wants_65 gL_wants_L_ready rfl rfl rfl (by decide +kernel) ⟨Nat.le_of_ble_eq_true rfl, Nat.le_of_ble_eq_true rfl⟩ ⟨Nat.le_of_ble_eq_true rfl, Nat.le_of_ble_eq_true rfl⟩ (z_spl_nil _) rfl rfl (Nat.le_of_ble_eq_true rfl) rfl (fun E w9 hq => hq.elim) (fun rv w126 hq => ?_)
      obtain ⟨rfl, hr126, hO126⟩ := hq
      refine z_ws w126 rfl ?_
      refine z_iconst (pc' := 69) dL_wants_68 rfl ?_
      refine z_pmin (c := q127 = (1 : Int)) (u := (1 : Int)) (v := (0 : Int)) (fun y9 => Z p l e ({ frames := 6, cells := 1, slots := 16, locals := 152 } : Room) s m args below meth c (MQ below (zQ D J A (fun rv w9 => rv = some (.int (zi res.1)) ∧ cOB J a_p0 res.2 w9)) args s 1 16 A) cL_wants 17 wsL_wants RL D J A (some .boolean) (yL_wants.name, []) 0 0 w126 [(6, .int (zi q8)), (5, .int (zi q5)), (4, .int (zi q2)), (0, .ref a_p0), (1, .int (zi p1)), (2, .int (zi p2)), (3, .int (zi p3))] 77 [.int (zi y9), .int (zi (if q5 = (1 : Int) then (1 : Int) else (0 : Int)))]) (fun j1 j2 => ?_) ?_
      · refine z_icmp_ne (pc' := 72) (tgt := 76) dL_wants_69 (by decide) hr126 (by decide) rfl (fun q => ?_) (fun q => ?_)
        · refine z_iconst (pc' := 77) dL_wants_76 rfl ?_
          exact j2 q
        · refine z_iconst (pc' := 73) dL_wants_72 rfl ?_
          refine z_goto (tgt := 77) dL_wants_73 (by decide) ?_
          exact j1 q
      have g129 : -2147483648 ≤ (if q127 = (1 : Int) then (1 : Int) else (0 : Int)) ∧ (if q127 = (1 : Int) then (1 : Int) else (0 : Int)) ≤ 2147483647 := by (by_cases hif : q127 = (1 : Int)) <;> first | (rw [if_pos hif]; exact (by decide)) | (rw [if_neg hif]; exact (by decide))
      refine z_icmp_ne (pc' := 80) (tgt := 84) dL_wants_77 (by decide) g125 g129 rfl (fun q => ?_) (fun q => ?_)
      · replace hsh := zif_f q hsh
        cases hsh
      · replace hsh := zif_t q hsh
        refine z_iconst (pc' := 81) dL_wants_80 rfl ?_
        refine z_goto (tgt := 85) dL_wants_81 (by decide) ?_
        refine z_istore (pc' := 87) [(7, .int (zi (1 : Int))), (6, .int (zi q8)), (5, .int (zi q5)), (4, .int (zi q2)), (0, .ref a_p0), (1, .int (zi p1)), (2, .int (zi p2)), (3, .int (zi p3))] dL_wants_85 (by decide) rfl rfl ?_
        refine z_lv [(0, .ref a_p0), (1, .int (zi p1)), (2, .int (zi p2)), (3, .int (zi p3)), (4, .int (zi q2)), (5, .int (zi q5)), (7, .int (zi (1 : Int)))] [4, 5, 6, 7, 3, 2, 0] rfl ?_
        exact zj_L_wants_J87 hO126 hsh
