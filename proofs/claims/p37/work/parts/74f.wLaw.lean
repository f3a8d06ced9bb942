noncomputable def sh_L_alike_L53 (F : Nat) (A_p0 : zO) (A_p1 : zO) (k : Int → Option (Int)) : Nat → Int → Option (Int)
  | 0, _ => none
  | N + 1, v28 => zkr v28 (if v28 < (16 : Int) then (kx_ready A_p0 v28).bind (fun (q31 : Int) => (kx_ready A_p1 v28).bind (fun (q34 : Int) => if q31 = q34 then (kx_blockers A_p0 v28).bind (fun (q37 : Int) => (kx_blockers A_p1 v28).bind (fun (q40 : Int) => if q37 = q40 then (kx_slack A_p0 v28).bind (fun (q43 : Int) => (kx_slack A_p1 v28).bind (fun (q46 : Int) => if q43 = q46 then (kx_most A_p0 v28).bind (fun (q49 : Int) => (kx_most A_p1 v28).bind (fun (q52 : Int) => if q49 = q52 then (kx_bucketsFor A_p0 v28 ((1 : Int) + (zmod v28 (5 : Int)))).bind (fun (q55 : Int) => (kx_bucketsFor A_p1 v28 ((1 : Int) + (zmod v28 (5 : Int)))).bind (fun (q58 : Int) => if q55 = q58 then (kx_waste A_p0 v28 ((1 : Int) + (zmod v28 (9 : Int)))).bind (fun (q61 : Int) => (kx_waste A_p1 v28 ((1 : Int) + (zmod v28 (9 : Int)))).bind (fun (q64 : Int) => if q61 = q64 then sh_L_alike_L53 F A_p0 A_p1 k N (v28 + (1 : Int)) else none)) else none)) else none)) else none)) else none)) else none)) else k v28)
noncomputable def sh_L_alike_L177 (F : Nat) (A_p0 : zO) (A_p1 : zO) (k : Int → Option (Int)) : Nat → Int → Option (Int)
  | 0, _ => none
  | N + 1, v69 => zkr v69 (if (2 : Int) < v69 then k v69 else (kn_best A_p0 (2 : Int) v69).bind (fun (q72 : Int) => (kn_best A_p1 (2 : Int) v69).bind (fun (q75 : Int) => if q72 = q75 then sh_L_alike_L177 F A_p0 A_p1 k N (v69 + (1 : Int)) else none)))
noncomputable def sh_L_alike (F : Nat) (A_p0 : zO) (A_p1 : zO) : Option (Int) := (kd_pointCount A_p0).bind (fun (q2 : Int) => (kd_pointCount A_p1).bind (fun (q5 : Int) => if q2 = q5 then (sh_L_now F A_p0).bind (fun (q8 : Int) => (sh_L_now F A_p1).bind (fun (q11 : Int) => zkl q8 (zkl q11 (if q8 = q11 then (kd_errorPosition A_p0).bind (fun (q16 : Int) => (kd_errorPosition A_p1).bind (fun (q19 : Int) => if q16 = q19 then (kd_nextByOrder A_p0).bind (fun (q22 : Int) => (kd_nextByOrder A_p1).bind (fun (q25 : Int) => if q22 = q25 then sh_L_alike_L53 F A_p0 A_p1 (fun (v66 : Int) => sh_L_alike_L177 F A_p0 A_p1 (fun (v77 : Int) => (kn_best A_p0 (3 : Int) (3 : Int)).bind (fun (q80 : Int) => (kn_best A_p1 (3 : Int) (3 : Int)).bind (fun (q83 : Int) => if q80 = q83 then (kn_ahead A_p0 (9 : Int)).bind (fun (q86 : Int) => (kn_ahead A_p1 (9 : Int)).bind (fun (q89 : Int) => if q86 = q89 then (kn_origins A_p0 (2 : Int) (55 : Int)).bind (fun (q92 : Int) => (kn_origins A_p1 (2 : Int) (55 : Int)).bind (fun (q95 : Int) => if q92 = q95 then (kn_simulate A_p0 (7 : Int) (20 : Int)).bind (fun (q98 : Int) => (kn_simulate A_p1 (7 : Int) (20 : Int)).bind (fun (q101 : Int) => if q98 = q101 then (kn_script A_p0 (2 : Int) (10016003 : Int)).bind (fun (q104 : Int) => (kn_script A_p1 (2 : Int) (10016003 : Int)).bind (fun (q107 : Int) => if q104 = q107 then some ((1 : Int)) else none)) else none)) else none)) else none)) else none))) F (0 : Int)) 17 (0 : Int) else none)) else none)) else none)))) else none))
theorem mL_alike_k233 : Cond.constantLong RL 233 (10016003) ∈ wsL_alike := List.mem_of_getElem? (i := 1) rfl
set_option maxRecDepth 100000 in
set_option maxHeartbeats 4000000 in
theorem zl_L_alike_L53 {p : Program} {l : Launch} {e : Env} {s : State} {m : MethodId} {args : Array Value} {below : List Frame} {meth : Method} {c : Code} {A : Nat → Prop} {D : va_G} {J : Nat → ClassId} {F : Nat} {a_p0 : Nat} {a_p1 : Nat} {A_p0 : zO} {A_p1 : zO} {res : Int} {k : Int → Option (Int)} (hk : ∀ (v28' : Int) (ws_p0' : va_W) (ws_p1' : va_W), cOB J a_p0 A_p0 ws_p0' → cOB J a_p1 A_p1 ws_p1' → k v28' = some res → Z p l e ({ frames := 26, cells := 272, slots := 1632, locals := 993 } : Room) s m args below meth c (MQ below (zQ D J A (fun rv w9 => rv = some (.int (zi res)) ∧ ∃ w0 w1 : va_W, w9 = w0 ++ w1 ∧ cOB J a_p0 A_p0 w0 ∧ cOB J a_p1 A_p1 w1)) args s 272 1632 A) cL_alike 4 wsL_alike RL D J A (some .boolean) (yL_alike.name, []) 272 1632 (ws_p0' ++ ws_p1') [(0, .ref a_p0), (1, .ref a_p1), (2, .int (zi (1 : Int)))] 175 []) : ∀ (N : Nat) (v28 : Int) (ws_p0 : va_W) (ws_p1 : va_W) (cs ss : Nat), cOB J a_p0 A_p0 ws_p0 → cOB J a_p1 A_p1 ws_p1 → cs + 16 * N ≤ 272 → ss + 96 * N ≤ 1632 → sh_L_alike_L53 F A_p0 A_p1 k N v28 = some res → Z p l e ({ frames := 26, cells := 272, slots := 1632, locals := 993 } : Room) s m args below meth c (MQ below (zQ D J A (fun rv w9 => rv = some (.int (zi res)) ∧ ∃ w0 w1 : va_W, w9 = w0 ++ w1 ∧ cOB J a_p0 A_p0 w0 ∧ cOB J a_p1 A_p1 w1)) args s 272 1632 A) cL_alike 4 wsL_alike RL D J A (some .boolean) (yL_alike.name, []) (cs + 0) (ss + 0) (ws_p0 ++ ws_p1) [(0, .ref a_p0), (1, .ref a_p1), (2, .int (zi (1 : Int))), (3, .int (zi v28))] 53 [] := by
  intro N
  induction N with
  | zero =>
    intro v28 ws_p0 ws_p1 cs ss hO_p0 hO_p1 hcs hss hsh
    exact absurd hsh (by simp [sh_L_alike_L53])
  | succ N ih =>
    intro v28 ws_p0 ws_p1 cs ss hO_p0 hO_p1 hcs hss hsh
    rw [sh_L_alike_L53] at hsh
    refine z_iload_n (pc' := 54) 3 dL_alike_53 rfl rfl rfl ?_
    refine z_bipush (pc' := 56) dL_alike_54 (by decide) rfl ?_
    have g29 := zkr_p hsh
    replace hsh := zkr_k hsh
    refine z_icmp_ge (pc' := 59) (tgt := 175) dL_alike_56 (by decide) g29 (by decide) rfl (fun q => ?_) (fun q => ?_)
    · replace hsh := zif_f q hsh
      refine z_lv [(0, .ref a_p0), (1, .ref a_p1), (2, .int (zi (1 : Int)))] [0, 1, 2] rfl ?_
      refine z_widen 272 1632 (by omega) (by omega) ?_
      exact hk _ _ _ hO_p0 hO_p1 hsh
    · replace hsh := zif_t q hsh
      refine z_iload_n (pc' := 60) 2 dL_alike_59 rfl rfl rfl ?_
      refine z_if_eq (pc' := 63) (tgt := 167) dL_alike_60 (by decide) (by decide) rfl (fun q => absurd q (by decide)) (fun q => ?_)
      refine z_aload_n (pc' := 64) 0 dL_alike_63 rfl rfl rfl ?_
      refine z_iload_n (pc' := 65) 3 dL_alike_64 rfl rfl rfl ?_
      obtain ⟨q31, h32, hsh⟩ := zbind hsh
      refine z_callSw (pc' := 68) (As := [.ref a_p0, .int (zi v28)]) (rest := []) (wr := ws_p1) 2 (oc_ready_x l D J hO_p0 v28 h32) dL_alike_65 gL_alike_L_ready rfl rfl rfl (by decide +kernel) ⟨Nat.le_of_ble_eq_true rfl, Nat.le_of_ble_eq_true rfl⟩ ⟨by dsimp only; omega, by dsimp only; omega⟩ (z_spl_id _ _) rfl rfl (Nat.le_of_ble_eq_true rfl) rfl (fun E w9 hq => hq.elim) (fun rv w30 hq => ?_)
      obtain ⟨rfl, hr30, hO30⟩ := hq
      refine z_ws (ws_p1 ++ w30) rfl ?_
      refine z_widen (cs + 1) (ss + 6) (by omega) (by omega) ?_
      refine z_aload_n (pc' := 69) 1 dL_alike_68 rfl rfl rfl ?_
      refine z_iload_n (pc' := 70) 3 dL_alike_69 rfl rfl rfl ?_
      obtain ⟨q34, h35, hsh⟩ := zbind hsh
      refine z_callSw (pc' := 73) (As := [.ref a_p1, .int (zi v28)]) (rest := [.int (zi q31)]) (wr := w30) 2 (oc_ready_x l D J hO_p1 v28 h35) dL_alike_70 gL_alike_L_ready rfl rfl rfl (by decide +kernel) ⟨Nat.le_of_ble_eq_true rfl, Nat.le_of_ble_eq_true rfl⟩ ⟨by dsimp only; omega, by dsimp only; omega⟩ (z_spl_id _ _) rfl rfl (Nat.le_of_ble_eq_true rfl) rfl (fun E w9 hq => hq.elim) (fun rv w33 hq => ?_)
      obtain ⟨rfl, hr33, hO33⟩ := hq
      refine z_ws (w30 ++ w33) rfl ?_
      refine z_widen (cs + 2) (ss + 12) (by omega) (by omega) ?_
      refine z_icmp_ne (pc' := 76) (tgt := 167) dL_alike_73 (by decide) hr30 hr33 rfl (fun q => ?_) (fun q => ?_)
      · replace hsh := zif_f q hsh
        cases hsh
      · replace hsh := zif_t q hsh
        refine z_aload_n (pc' := 77) 0 dL_alike_76 rfl rfl rfl ?_
        refine z_iload_n (pc' := 78) 3 dL_alike_77 rfl rfl rfl ?_
        obtain ⟨q37, h38, hsh⟩ := zbind hsh
        refine z_callSw (pc' := 81) (As := [.ref a_p0, .int (zi v28)]) (rest := []) (wr := w33) 2 (oc_blockers_x l D J hO30 v28 h38) dL_alike_78 gL_alike_L_blockers rfl rfl rfl (by decide +kernel) ⟨Nat.le_of_ble_eq_true rfl, Nat.le_of_ble_eq_true rfl⟩ ⟨by dsimp only; omega, by dsimp only; omega⟩ (z_spl_id _ _) rfl rfl (Nat.le_of_ble_eq_true rfl) rfl (fun E w9 hq => hq.elim) (fun rv w36 hq => ?_)
        obtain ⟨rfl, hr36, hO36⟩ := hq
        refine z_ws (w33 ++ w36) rfl ?_
        refine z_widen (cs + 3) (ss + 18) (by omega) (by omega) ?_
        refine z_aload_n (pc' := 82) 1 dL_alike_81 rfl rfl rfl ?_
        refine z_iload_n (pc' := 83) 3 dL_alike_82 rfl rfl rfl ?_
        obtain ⟨q40, h41, hsh⟩ := zbind hsh
        refine z_callSw (pc' := 86) (As := [.ref a_p1, .int (zi v28)]) (rest := [.int (zi q37)]) (wr := w36) 2 (oc_blockers_x l D J hO33 v28 h41) dL_alike_83 gL_alike_L_blockers rfl rfl rfl (by decide +kernel) ⟨Nat.le_of_ble_eq_true rfl, Nat.le_of_ble_eq_true rfl⟩ ⟨by dsimp only; omega, by dsimp only; omega⟩ (z_spl_id _ _) rfl rfl (Nat.le_of_ble_eq_true rfl) rfl (fun E w9 hq => hq.elim) (fun rv w39 hq => ?_)
        obtain ⟨rfl, hr39, hO39⟩ := hq
        refine z_ws (w36 ++ w39) rfl ?_
        refine z_widen (cs + 4) (ss + 24) (by omega) (by omega) ?_
        refine z_icmp_ne (pc' := 89) (tgt := 167) dL_alike_86 (by decide) hr36 hr39 rfl (fun q => ?_) (fun q => ?_)
        · replace hsh := zif_f q hsh
          cases hsh
        · replace hsh := zif_t q hsh
          refine z_aload_n (pc' := 90) 0 dL_alike_89 rfl rfl rfl ?_
          refine z_iload_n (pc' := 91) 3 dL_alike_90 rfl rfl rfl ?_
          obtain ⟨q43, h44, hsh⟩ := zbind hsh
          refine z_callSw (pc' := 94) (As := [.ref a_p0, .int (zi v28)]) (rest := []) (wr := w39) 2 (oc_slack_x l D J hO36 v28 h44) dL_alike_91 gL_alike_L_slack rfl rfl rfl (by decide +kernel) ⟨Nat.le_of_ble_eq_true rfl, Nat.le_of_ble_eq_true rfl⟩ ⟨by dsimp only; omega, by dsimp only; omega⟩ (z_spl_id _ _) rfl rfl (Nat.le_of_ble_eq_true rfl) rfl (fun E w9 hq => hq.elim) (fun rv w42 hq => ?_)
          obtain ⟨rfl, hr42, hO42⟩ := hq
          refine z_ws (w39 ++ w42) rfl ?_
          refine z_widen (cs + 5) (ss + 30) (by omega) (by omega) ?_
          refine z_aload_n (pc' := 95) 1 dL_alike_94 rfl rfl rfl ?_
          refine z_iload_n (pc' := 96) 3 dL_alike_95 rfl rfl rfl ?_
          obtain ⟨q46, h47, hsh⟩ := zbind hsh
          refine z_callSw (pc' := 99) (As := [.ref a_p1, .int (zi v28)]) (rest := [.int (zi q43)]) (wr := w42) 2 (oc_slack_x l D J hO39 v28 h47) dL_alike_96 gL_alike_L_slack rfl rfl rfl (by decide +kernel) ⟨Nat.le_of_ble_eq_true rfl, Nat.le_of_ble_eq_true rfl⟩ ⟨by dsimp only; omega, by dsimp only; omega⟩ (z_spl_id _ _) rfl rfl (Nat.le_of_ble_eq_true rfl) rfl (fun E w9 hq => hq.elim) (fun rv w45 hq => ?_)
          obtain ⟨rfl, hr45, hO45⟩ := hq
          refine z_ws (w42 ++ w45) rfl ?_
          refine z_widen (cs + 6) (ss + 36) (by omega) (by omega) ?_
          refine z_icmp_ne (pc' := 102) (tgt := 167) dL_alike_99 (by decide) hr42 hr45 rfl (fun q => ?_) (fun q => ?_)
          · replace hsh := zif_f q hsh
            cases hsh
          · replace hsh := zif_t q hsh
            refine z_aload_n (pc' := 103) 0 dL_alike_102 rfl rfl rfl ?_
            refine z_iload_n (pc' := 104) 3 dL_alike_103 rfl rfl rfl ?_
            obtain ⟨q49, h50, hsh⟩ := zbind hsh
            refine z_callSw (pc' := 107) (As := [.ref a_p0, .int (zi v28)]) (rest := []) (wr := w45) 2 (oc_most_x l D J hO42 v28 h50) dL_alike_104 gL_alike_L_most rfl rfl rfl (by decide +kernel) ⟨Nat.le_of_ble_eq_true rfl, Nat.le_of_ble_eq_true rfl⟩ ⟨by dsimp only; omega, by dsimp only; omega⟩ (z_spl_id _ _) rfl rfl (Nat.le_of_ble_eq_true rfl) rfl (fun E w9 hq => hq.elim) (fun rv w48 hq => ?_)
            obtain ⟨rfl, hr48, hO48⟩ := hq
            refine z_ws (w45 ++ w48) rfl ?_
            refine z_widen (cs + 7) (ss + 42) (by omega) (by omega) ?_
            refine z_aload_n (pc' := 108) 1 dL_alike_107 rfl rfl rfl ?_
            refine z_iload_n (pc' := 109) 3 dL_alike_108 rfl rfl rfl ?_
            obtain ⟨q52, h53, hsh⟩ := zbind hsh
            refine z_callSw (pc' := 112) (As := [.ref a_p1, .int (zi v28)]) (rest := [.int (zi q49)]) (wr := w48) 2 (oc_most_x l D J hO45 v28 h53) dL_alike_109 gL_alike_L_most rfl rfl rfl (by decide +kernel) ⟨Nat.le_of_ble_eq_true rfl, Nat.le_of_ble_eq_true rfl⟩ ⟨by dsimp only; omega, by dsimp only; omega⟩ (z_spl_id _ _) rfl rfl (Nat.le_of_ble_eq_true rfl) rfl (fun E w9 hq => hq.elim) (fun rv w51 hq => ?_)
            obtain ⟨rfl, hr51, hO51⟩ := hq
            refine z_ws (w48 ++ w51) rfl ?_
            refine z_widen (cs + 8) (ss + 48) (by omega) (by omega) ?_
            refine z_icmp_ne (pc' := 115) (tgt := 167) dL_alike_112 (by decide) hr48 hr51 rfl (fun q => ?_) (fun q => ?_)
            · replace hsh := zif_f q hsh
              cases hsh
            · replace hsh := zif_t q hsh
              refine z_aload_n (pc' := 116) 0 dL_alike_115 rfl rfl rfl ?_
              refine z_iload_n (pc' := 117) 3 dL_alike_116 rfl rfl rfl ?_
              refine z_iconst (pc' := 118) dL_alike_117 rfl ?_
              refine z_iload_n (pc' := 119) 3 dL_alike_118 rfl rfl rfl ?_
              refine z_iconst (pc' := 120) dL_alike_119 rfl ?_
              refine z_irem (pc' := 121) dL_alike_120 g29 (by decide) (by decide) rfl ?_
              refine z_iadd (pc' := 122) dL_alike_121 rfl ?_
              obtain ⟨q55, h56, hsh⟩ := zbind hsh
              refine z_callSw (pc' := 125) (As := [.ref a_p0, .int (zi v28), .int (zi ((1 : Int) + (zmod v28 (5 : Int))))]) (rest := []) (wr := w51) 3 (oc_bucketsFor_x l D J hO48 v28 ((1 : Int) + (zmod v28 (5 : Int))) h56) dL_alike_122 gL_alike_L_bucketsFor rfl rfl rfl (by decide +kernel) ⟨Nat.le_of_ble_eq_true rfl, Nat.le_of_ble_eq_true rfl⟩ ⟨by dsimp only; omega, by dsimp only; omega⟩ (z_spl_id _ _) rfl rfl (Nat.le_of_ble_eq_true rfl) rfl (fun E w9 hq => hq.elim) (fun rv w54 hq => ?_)
              obtain ⟨rfl, hr54, hO54⟩ := hq
              refine z_ws (w51 ++ w54) rfl ?_
              refine z_widen (cs + 10) (ss + 60) (by omega) (by omega) ?_
              refine z_aload_n (pc' := 126) 1 dL_alike_125 rfl rfl rfl ?_
              refine z_iload_n (pc' := 127) 3 dL_alike_126 rfl rfl rfl ?_
              refine z_iconst (pc' := 128) dL_alike_127 rfl ?_
              refine z_iload_n (pc' := 129) 3 dL_alike_128 rfl rfl rfl ?_
              refine z_iconst (pc' := 130) dL_alike_129 rfl ?_
              refine z_irem (pc' := 131) dL_alike_130 g29 (by decide) (by decide) rfl ?_
              refine z_iadd (pc' := 132) dL_alike_131 rfl ?_
              obtain ⟨q58, h59, hsh⟩ := zbind hsh
              refine z_callSw (pc' := 135) (As := [.ref a_p1, .int (zi v28), .int (zi ((1 : Int) + (zmod v28 (5 : Int))))]) (rest := [.int (zi q55)]) (wr := w54) 3 (oc_bucketsFor_x l D J hO51 v28 ((1 : Int) + (zmod v28 (5 : Int))) h59) dL_alike_132 gL_alike_L_bucketsFor rfl rfl rfl (by decide +kernel) ⟨Nat.le_of_ble_eq_true rfl, Nat.le_of_ble_eq_true rfl⟩ ⟨by dsimp only; omega, by dsimp only; omega⟩ (z_spl_id _ _) rfl rfl (Nat.le_of_ble_eq_true rfl) rfl (fun E w9 hq => hq.elim) (fun rv w57 hq => ?_)
              obtain ⟨rfl, hr57, hO57⟩ := hq
              refine z_ws (w54 ++ w57) rfl ?_
              refine z_widen (cs + 12) (ss + 72) (by omega) (by omega) ?_
              refine z_icmp_ne (pc' := 138) (tgt := 167) dL_alike_135 (by decide) hr54 hr57 rfl (fun q => ?_) (fun q => ?_)
              · replace hsh := zif_f q hsh
                cases hsh
              · replace hsh := zif_t q hsh
                refine z_aload_n (pc' := 139) 0 dL_alike_138 rfl rfl rfl ?_
                refine z_iload_n (pc' := 140) 3 dL_alike_139 rfl rfl rfl ?_
                refine z_iconst (pc' := 141) dL_alike_140 rfl ?_
                refine z_iload_n (pc' := 142) 3 dL_alike_141 rfl rfl rfl ?_
                refine z_bipush (pc' := 144) dL_alike_142 (by decide) rfl ?_
                refine z_irem (pc' := 145) dL_alike_144 g29 (by decide) (by decide) rfl ?_
                refine z_iadd (pc' := 146) dL_alike_145 rfl ?_
                obtain ⟨q61, h62, hsh⟩ := zbind hsh
                refine z_callSw (pc' := 149) (As := [.ref a_p0, .int (zi v28), .int (zi ((1 : Int) + (zmod v28 (9 : Int))))]) (rest := []) (wr := w57) 3 (oc_waste_x l D J hO54 v28 ((1 : Int) + (zmod v28 (9 : Int))) h62) dL_alike_146 gL_alike_L_waste rfl rfl rfl (by decide +kernel) ⟨Nat.le_of_ble_eq_true rfl, Nat.le_of_ble_eq_true rfl⟩ ⟨by dsimp only; omega, by dsimp only; omega⟩ (z_spl_id _ _) rfl rfl (Nat.le_of_ble_eq_true rfl) rfl (fun E w9 hq => hq.elim) (fun rv w60 hq => ?_)
                obtain ⟨rfl, hr60, hO60⟩ := hq
                refine z_ws (w57 ++ w60) rfl ?_
                refine z_widen (cs + 14) (ss + 84) (by omega) (by omega) ?_
                refine z_aload_n (pc' := 150) 1 dL_alike_149 rfl rfl rfl ?_
                refine z_iload_n (pc' := 151) 3 dL_alike_150 rfl rfl rfl ?_
                refine z_iconst (pc' := 152) dL_alike_151 rfl ?_
                refine z_iload_n (pc' := 153) 3 dL_alike_152 rfl rfl rfl ?_
                refine z_bipush (pc' := 155) dL_alike_153 (by decide) rfl ?_
                refine z_irem (pc' := 156) dL_alike_155 g29 (by decide) (by decide) rfl ?_
                refine z_iadd (pc' := 157) dL_alike_156 rfl ?_
                obtain ⟨q64, h65, hsh⟩ := zbind hsh
                refine z_callSw (pc' := 160) (As := [.ref a_p1, .int (zi v28), .int (zi ((1 : Int) + (zmod v28 (9 : Int))))]) (rest := [.int (zi q61)]) (wr := w60) 3 (oc_waste_x l D J hO57 v28 ((1 : Int) + (zmod v28 (9 : Int))) h65) dL_alike_157 gL_alike_L_waste rfl rfl rfl (by decide +kernel) ⟨Nat.le_of_ble_eq_true rfl, Nat.le_of_ble_eq_true rfl⟩ ⟨by dsimp only; omega, by dsimp only; omega⟩ (z_spl_id _ _) rfl rfl (Nat.le_of_ble_eq_true rfl) rfl (fun E w9 hq => hq.elim) (fun rv w63 hq => ?_)
                obtain ⟨rfl, hr63, hO63⟩ := hq
                refine z_ws (w60 ++ w63) rfl ?_
                refine z_widen (cs + 16) (ss + 96) (by omega) (by omega) ?_
                refine z_icmp_ne (pc' := 163) (tgt := 167) dL_alike_160 (by decide) hr60 hr63 rfl (fun q => ?_) (fun q => ?_)
                · replace hsh := zif_f q hsh
                  cases hsh
                · replace hsh := zif_t q hsh
                  refine z_iconst (pc' := 164) dL_alike_163 rfl ?_
                  refine z_goto (tgt := 168) dL_alike_164 (by decide) ?_
                  refine z_istore_n (pc' := 169) [(2, .int (zi (1 : Int))), (0, .ref a_p0), (1, .ref a_p1), (3, .int (zi v28))] dL_alike_168 rfl (by decide) rfl rfl ?_
                  refine z_iinc (pc' := 172) [(3, .int (zi (v28 + (1 : Int)))), (2, .int (zi (1 : Int))), (0, .ref a_p0), (1, .ref a_p1)] 3 dL_alike_169 rfl (by decide) rfl rfl ?_
                  refine z_goto (tgt := 53) dL_alike_172 (by decide) ?_
                  refine z_lv [(0, .ref a_p0), (1, .ref a_p1), (2, .int (zi (1 : Int))), (3, .int (zi (v28 + (1 : Int))))] [2, 3, 1, 0] rfl ?_
                  refine z_widen (cs + 16) (ss + 96) (by omega) (by omega) ?_
                  exact ih _ _ _ _ _ hO60 hO63 (by omega) (by omega) hsh
set_option maxRecDepth 100000 in
set_option maxHeartbeats 4000000 in
theorem zl_L_alike_L177 {p : Program} {l : Launch} {e : Env} {s : State} {m : MethodId} {args : Array Value} {below : List Frame} {meth : Method} {c : Code} {A : Nat → Prop} {D : va_G} {J : Nat → ClassId} {F : Nat} {a_p0 : Nat} {a_p1 : Nat} {A_p0 : zO} {A_p1 : zO} {res : Int} {k : Int → Option (Int)} (hk : ∀ (v69' : Int) (ws_p0' : va_W) (ws_p1' : va_W), cOB J a_p0 A_p0 ws_p0' → cOB J a_p1 A_p1 ws_p1' → k v69' = some res → Z p l e ({ frames := 26, cells := 272, slots := 1632, locals := 993 } : Room) s m args below meth c (MQ below (zQ D J A (fun rv w9 => rv = some (.int (zi res)) ∧ ∃ w0 w1 : va_W, w9 = w0 ++ w1 ∧ cOB J a_p0 A_p0 w0 ∧ cOB J a_p1 A_p1 w1)) args s 272 1632 A) cL_alike 4 wsL_alike RL D J A (some .boolean) (yL_alike.name, []) 272 1632 (ws_p0' ++ ws_p1') [(0, .ref a_p0), (1, .ref a_p1), (2, .int (zi (1 : Int)))] 213 []) : ∀ (N : Nat) (v69 : Int) (ws_p0 : va_W) (ws_p1 : va_W), cOB J a_p0 A_p0 ws_p0 → cOB J a_p1 A_p1 ws_p1 → sh_L_alike_L177 F A_p0 A_p1 k N v69 = some res → Z p l e ({ frames := 26, cells := 272, slots := 1632, locals := 993 } : Room) s m args below meth c (MQ below (zQ D J A (fun rv w9 => rv = some (.int (zi res)) ∧ ∃ w0 w1 : va_W, w9 = w0 ++ w1 ∧ cOB J a_p0 A_p0 w0 ∧ cOB J a_p1 A_p1 w1)) args s 272 1632 A) cL_alike 4 wsL_alike RL D J A (some .boolean) (yL_alike.name, []) 272 1632 (ws_p0 ++ ws_p1) [(0, .ref a_p0), (1, .ref a_p1), (2, .int (zi (1 : Int))), (3, .int (zi v69))] 177 [] := by
  intro N
  induction N with
  | zero =>
    intro v69 ws_p0 ws_p1 hO_p0 hO_p1 hsh
    exact absurd hsh (by simp [sh_L_alike_L177])
  | succ N ih =>
    intro v69 ws_p0 ws_p1 hO_p0 hO_p1 hsh
    rw [sh_L_alike_L177] at hsh
    refine z_iload_n (pc' := 178) 3 dL_alike_177 rfl rfl rfl ?_
    refine z_iconst (pc' := 179) dL_alike_178 rfl ?_
    have g70 := zkr_p hsh
    replace hsh := zkr_k hsh
    refine z_icmp_gt (pc' := 182) (tgt := 213) dL_alike_179 (by decide) g70 (by decide) rfl (fun q => ?_) (fun q => ?_)
    · replace hsh := zif_t q hsh
      refine z_lv [(0, .ref a_p0), (1, .ref a_p1), (2, .int (zi (1 : Int)))] [0, 1, 2] rfl ?_
      exact hk _ _ _ hO_p0 hO_p1 hsh
    · replace hsh := zif_f q hsh
      refine z_iload_n (pc' := 183) 2 dL_alike_182 rfl rfl rfl ?_
      refine z_if_eq (pc' := 186) (tgt := 205) dL_alike_183 (by decide) (by decide) rfl (fun q => absurd q (by decide)) (fun q => ?_)
      refine z_aload_n (pc' := 187) 0 dL_alike_186 rfl rfl rfl ?_
      refine z_iconst (pc' := 188) dL_alike_187 rfl ?_
      refine z_iload_n (pc' := 189) 3 dL_alike_188 rfl rfl rfl ?_
      obtain ⟨q72, h73, hsh⟩ := zbind hsh
      refine z_callSw (pc' := 192) (As := [.ref a_p0, .int (zi (2 : Int)), .int (zi v69)]) (rest := []) (wr := ws_p1) 3 (oc_best_n l D J hO_p0 (2 : Int) v69 h73) dL_alike_189 gL_alike_L_best rfl rfl rfl (by decide +kernel) ⟨Nat.le_of_ble_eq_true rfl, Nat.le_of_ble_eq_true rfl⟩ ⟨Nat.le_of_ble_eq_true rfl, Nat.le_of_ble_eq_true rfl⟩ (z_spl_id _ _) rfl rfl (Nat.le_of_ble_eq_true rfl) rfl (fun E w9 hq => hq.elim) (fun rv w71 hq => ?_)
      obtain ⟨rfl, hr71, hO71⟩ := hq
      refine z_ws (ws_p1 ++ w71) rfl ?_
      refine z_aload_n (pc' := 193) 1 dL_alike_192 rfl rfl rfl ?_
      refine z_iconst (pc' := 194) dL_alike_193 rfl ?_
      refine z_iload_n (pc' := 195) 3 dL_alike_194 rfl rfl rfl ?_
      obtain ⟨q75, h76, hsh⟩ := zbind hsh
      refine z_callSw (pc' := 198) (As := [.ref a_p1, .int (zi (2 : Int)), .int (zi v69)]) (rest := [.int (zi q72)]) (wr := w71) 3 (oc_best_n l D J hO_p1 (2 : Int) v69 h76) dL_alike_195 gL_alike_L_best rfl rfl rfl (by decide +kernel) ⟨Nat.le_of_ble_eq_true rfl, Nat.le_of_ble_eq_true rfl⟩ ⟨Nat.le_of_ble_eq_true rfl, Nat.le_of_ble_eq_true rfl⟩ (z_spl_id _ _) rfl rfl (Nat.le_of_ble_eq_true rfl) rfl (fun E w9 hq => hq.elim) (fun rv w74 hq => ?_)
      obtain ⟨rfl, hr74, hO74⟩ := hq
      refine z_ws (w71 ++ w74) rfl ?_
      refine z_icmp_ne (pc' := 201) (tgt := 205) dL_alike_198 (by decide) hr71 hr74 rfl (fun q => ?_) (fun q => ?_)
      · replace hsh := zif_f q hsh
        cases hsh
      · replace hsh := zif_t q hsh
        refine z_iconst (pc' := 202) dL_alike_201 rfl ?_
        refine z_goto (tgt := 206) dL_alike_202 (by decide) ?_
        refine z_istore_n (pc' := 207) [(2, .int (zi (1 : Int))), (0, .ref a_p0), (1, .ref a_p1), (3, .int (zi v69))] dL_alike_206 rfl (by decide) rfl rfl ?_
        refine z_iinc (pc' := 210) [(3, .int (zi (v69 + (1 : Int)))), (2, .int (zi (1 : Int))), (0, .ref a_p0), (1, .ref a_p1)] 3 dL_alike_207 rfl (by decide) rfl rfl ?_
        refine z_goto (tgt := 177) dL_alike_210 (by decide) ?_
        refine z_lv [(0, .ref a_p0), (1, .ref a_p1), (2, .int (zi (1 : Int))), (3, .int (zi (v69 + (1 : Int))))] [2, 3, 1, 0] rfl ?_
        exact ih _ _ _ hO71 hO74 hsh
set_option maxRecDepth 100000 in
set_option maxHeartbeats 4000000 in
theorem zc_L_alike (l : Launch) (D : va_G) (J : Nat → ClassId) (F : Nat) {a_p0 : Nat} {A_p0 : zO} {ws_p0 : va_W} {a_p1 : Nat} {A_p1 : zO} {ws_p1 : va_W} (hO_p0 : cOB J a_p0 A_p0 ws_p0) (hO_p1 : cOB J a_p1 A_p1 ws_p1) (res : Int) (hsh : sh_L_alike F A_p0 A_p1 = some res) : ZM l D J yL_alike wsL_alike ({ frames := 26, cells := 272, slots := 1632, locals := 993 } : Room) 272 1632 [.ref a_p0, .ref a_p1] (ws_p0 ++ ws_p1) (fun rv w9 => rv = some (.int (zi res)) ∧ ∃ w0 w1 : va_W, w9 = w0 ++ w1 ∧ cOB J a_p0 A_p0 w0 ∧ cOB J a_p1 A_p1 w1) := by
  refine z_ofZ (cc := cL_alike) (maxL := 4) (ret := (some .boolean)) 272 1632 (by decide) rfl (Nat.le_of_ble_eq_true rfl) [(0, .ref a_p0), (1, .ref a_p1)] rfl ?_
  intro p e s m args below meth c A
  unfold sh_L_alike at hsh
  refine z_aload_n (pc' := 1) 0 dL_alike_0 rfl rfl rfl ?_
  obtain ⟨q2, h3, hsh⟩ := zbind hsh
  obtain ⟨fs1, h0_1⟩ := hO_p0.h0
  refine z_callV (pc' := 4) (C := RX8) (As := []) (rest := []) (wr := ws_p1) 0 (oc_pointCount_d l D J hO_p0 h3) dL_alike_1 gL_alike_X8_pointCount rfl rfl rfl (by decide +kernel) ⟨Nat.le_of_ble_eq_true rfl, Nat.le_of_ble_eq_true rfl⟩ ⟨Nat.le_of_ble_eq_true rfl, Nat.le_of_ble_eq_true rfl⟩ (z_spl_id _ _) h0_1 rfl rfl rfl (Nat.le_of_ble_eq_true rfl) rfl (fun rv w1 hq => ?_)
  obtain ⟨rfl, hr1, hO1⟩ := hq
  refine z_ws (ws_p1 ++ w1) rfl ?_
  refine z_aload_n (pc' := 5) 1 dL_alike_4 rfl rfl rfl ?_
  obtain ⟨q5, h6, hsh⟩ := zbind hsh
  obtain ⟨fs4, h0_4⟩ := hO_p1.h0
  refine z_callV (pc' := 8) (C := RX8) (As := []) (rest := [.int (zi q2)]) (wr := w1) 0 (oc_pointCount_d l D J hO_p1 h6) dL_alike_5 gL_alike_X8_pointCount rfl rfl rfl (by decide +kernel) ⟨Nat.le_of_ble_eq_true rfl, Nat.le_of_ble_eq_true rfl⟩ ⟨Nat.le_of_ble_eq_true rfl, Nat.le_of_ble_eq_true rfl⟩ (z_spl_id _ _) h0_4 rfl rfl rfl (Nat.le_of_ble_eq_true rfl) rfl (fun rv w4 hq => ?_)
  obtain ⟨rfl, hr4, hO4⟩ := hq
  refine z_ws (w1 ++ w4) rfl ?_
  refine z_icmp_ne (pc' := 11) (tgt := 49) dL_alike_8 (by decide) hr1 hr4 rfl (fun q => ?_) (fun q => ?_)
  · replace hsh := zif_f q hsh
    cases hsh
  · replace hsh := zif_t q hsh
    refine z_aload_n (pc' := 12) 0 dL_alike_11 rfl rfl rfl ?_
    obtain ⟨q8, h9, hsh⟩ := zbind hsh
    refine z_callS (pc' := 15) (As := [.ref a_p0]) (rest := []) (wr := w4) 1 (zc_L_now l D J F hO1 q8 h9) dL_alike_12 gL_alike_L_now rfl rfl rfl (by decide +kernel) ⟨Nat.le_of_ble_eq_true rfl, Nat.le_of_ble_eq_true rfl⟩ ⟨Nat.le_of_ble_eq_true rfl, Nat.le_of_ble_eq_true rfl⟩ (z_spl_id _ _) rfl rfl (Nat.le_of_ble_eq_true rfl) rfl (fun rv w7 hq => ?_)
    obtain ⟨rfl, hO7⟩ := hq
    refine z_ws (w4 ++ w7) rfl ?_
    refine z_aload_n (pc' := 16) 1 dL_alike_15 rfl rfl rfl ?_
    obtain ⟨q11, h12, hsh⟩ := zbind hsh
    refine z_callS (pc' := 19) (As := [.ref a_p1]) (rest := [.long (zl q8)]) (wr := w7) 1 (zc_L_now l D J F hO4 q11 h12) dL_alike_16 gL_alike_L_now rfl rfl rfl (by decide +kernel) ⟨Nat.le_of_ble_eq_true rfl, Nat.le_of_ble_eq_true rfl⟩ ⟨Nat.le_of_ble_eq_true rfl, Nat.le_of_ble_eq_true rfl⟩ (z_spl_id _ _) rfl rfl (Nat.le_of_ble_eq_true rfl) rfl (fun rv w10 hq => ?_)
    obtain ⟨rfl, hO10⟩ := hq
    refine z_ws (w7 ++ w10) rfl ?_
    have g13 := zkl_p hsh
    replace hsh := zkl_k hsh
    have g14 := zkl_p hsh
    replace hsh := zkl_k hsh
    refine z_lcmp_ne (pc' := 23) (tgt := 49) dL_alike_19 dL_alike_20 (by decide) g13 g14 rfl (fun q => ?_) (fun q => ?_)
    · replace hsh := zif_f q hsh
      cases hsh
    · replace hsh := zif_t q hsh
      refine z_aload_n (pc' := 24) 0 dL_alike_23 rfl rfl rfl ?_
      obtain ⟨q16, h17, hsh⟩ := zbind hsh
      obtain ⟨fs15, h0_15⟩ := hO7.h0
      refine z_callV (pc' := 27) (C := RX8) (As := []) (rest := []) (wr := w10) 0 (oc_errorPosition_d l D J hO7 h17) dL_alike_24 gL_alike_X8_errorPosition rfl rfl rfl (by decide +kernel) ⟨Nat.le_of_ble_eq_true rfl, Nat.le_of_ble_eq_true rfl⟩ ⟨Nat.le_of_ble_eq_true rfl, Nat.le_of_ble_eq_true rfl⟩ (z_spl_id _ _) h0_15 rfl rfl rfl (Nat.le_of_ble_eq_true rfl) rfl (fun rv w15 hq => ?_)
      obtain ⟨rfl, hr15, hO15⟩ := hq
      refine z_ws (w10 ++ w15) rfl ?_
      refine z_aload_n (pc' := 28) 1 dL_alike_27 rfl rfl rfl ?_
      obtain ⟨q19, h20, hsh⟩ := zbind hsh
      obtain ⟨fs18, h0_18⟩ := hO10.h0
      refine z_callV (pc' := 31) (C := RX8) (As := []) (rest := [.int (zi q16)]) (wr := w15) 0 (oc_errorPosition_d l D J hO10 h20) dL_alike_28 gL_alike_X8_errorPosition rfl rfl rfl (by decide +kernel) ⟨Nat.le_of_ble_eq_true rfl, Nat.le_of_ble_eq_true rfl⟩ ⟨Nat.le_of_ble_eq_true rfl, Nat.le_of_ble_eq_true rfl⟩ (z_spl_id _ _) h0_18 rfl rfl rfl (Nat.le_of_ble_eq_true rfl) rfl (fun rv w18 hq => ?_)
      obtain ⟨rfl, hr18, hO18⟩ := hq
      refine z_ws (w15 ++ w18) rfl ?_
      refine z_icmp_ne (pc' := 34) (tgt := 49) dL_alike_31 (by decide) hr15 hr18 rfl (fun q => ?_) (fun q => ?_)
      · replace hsh := zif_f q hsh
        cases hsh
      · replace hsh := zif_t q hsh
        refine z_aload_n (pc' := 35) 0 dL_alike_34 rfl rfl rfl ?_
        obtain ⟨q22, h23, hsh⟩ := zbind hsh
        obtain ⟨fs21, h0_21⟩ := hO15.h0
        refine z_callV (pc' := 38) (C := RX8) (As := []) (rest := []) (wr := w18) 0 (oc_nextByOrder_d l D J hO15 h23) dL_alike_35 gL_alike_X8_nextByOrder rfl rfl rfl (by decide +kernel) ⟨Nat.le_of_ble_eq_true rfl, Nat.le_of_ble_eq_true rfl⟩ ⟨Nat.le_of_ble_eq_true rfl, Nat.le_of_ble_eq_true rfl⟩ (z_spl_id _ _) h0_21 rfl rfl rfl (Nat.le_of_ble_eq_true rfl) rfl (fun rv w21 hq => ?_)
        obtain ⟨rfl, hr21, hO21⟩ := hq
        refine z_ws (w18 ++ w21) rfl ?_
        refine z_aload_n (pc' := 39) 1 dL_alike_38 rfl rfl rfl ?_
        obtain ⟨q25, h26, hsh⟩ := zbind hsh
        obtain ⟨fs24, h0_24⟩ := hO18.h0
        refine z_callV (pc' := 42) (C := RX8) (As := []) (rest := [.int (zi q22)]) (wr := w21) 0 (oc_nextByOrder_d l D J hO18 h26) dL_alike_39 gL_alike_X8_nextByOrder rfl rfl rfl (by decide +kernel) ⟨Nat.le_of_ble_eq_true rfl, Nat.le_of_ble_eq_true rfl⟩ ⟨Nat.le_of_ble_eq_true rfl, Nat.le_of_ble_eq_true rfl⟩ (z_spl_id _ _) h0_24 rfl rfl rfl (Nat.le_of_ble_eq_true rfl) rfl (fun rv w24 hq => ?_)
        obtain ⟨rfl, hr24, hO24⟩ := hq
        refine z_ws (w21 ++ w24) rfl ?_
        refine z_icmp_ne (pc' := 45) (tgt := 49) dL_alike_42 (by decide) hr21 hr24 rfl (fun q => ?_) (fun q => ?_)
        · replace hsh := zif_f q hsh
          cases hsh
        · replace hsh := zif_t q hsh
          refine z_iconst (pc' := 46) dL_alike_45 rfl ?_
          refine z_goto (tgt := 50) dL_alike_46 (by decide) ?_
          refine z_istore_n (pc' := 51) [(2, .int (zi (1 : Int))), (0, .ref a_p0), (1, .ref a_p1)] dL_alike_50 rfl (by decide) rfl rfl ?_
          refine z_iconst (pc' := 52) dL_alike_51 rfl ?_
          refine z_istore_n (pc' := 53) [(3, .int (zi (0 : Int))), (2, .int (zi (1 : Int))), (0, .ref a_p0), (1, .ref a_p1)] dL_alike_52 rfl (by decide) rfl rfl ?_
          refine z_lv [(0, .ref a_p0), (1, .ref a_p1), (2, .int (zi (1 : Int))), (3, .int (zi (0 : Int)))] [2, 3, 1, 0] rfl ?_
          refine zl_L_alike_L53 (F := F) (hk := fun v66 ws67_p0 ws67_p1 hO67_p0 hO67_p1 hsh => ?_) _ _ _ _ _ _ hO21 hO24 (by omega) (by omega) hsh
          refine z_iconst (pc' := 176) dL_alike_175 rfl ?_
          refine z_istore_n (pc' := 177) [(3, .int (zi (0 : Int))), (0, .ref a_p0), (1, .ref a_p1), (2, .int (zi (1 : Int)))] dL_alike_176 rfl (by decide) rfl rfl ?_
          refine z_lv [(0, .ref a_p0), (1, .ref a_p1), (2, .int (zi (1 : Int))), (3, .int (zi (0 : Int)))] [1, 2, 3, 0] rfl ?_
          refine zl_L_alike_L177 (F := F) (hk := fun v77 ws78_p0 ws78_p1 hO78_p0 hO78_p1 hsh => ?_) _ _ _ _ hO67_p0 hO67_p1 hsh
          refine z_iload_n (pc' := 214) 2 dL_alike_213 rfl rfl rfl ?_
          refine z_if_eq (pc' := 217) (tgt := 306) dL_alike_214 (by decide) (by decide) rfl (fun q => absurd q (by decide)) (fun q => ?_)
          refine z_aload_n (pc' := 218) 0 dL_alike_217 rfl rfl rfl ?_
          refine z_iconst (pc' := 219) dL_alike_218 rfl ?_
          refine z_iconst (pc' := 220) dL_alike_219 rfl ?_
          obtain ⟨q80, h81, hsh⟩ := zbind hsh
          refine z_callSw (pc' := 223) (As := [.ref a_p0, .int (zi (3 : Int)), .int (zi (3 : Int))]) (rest := []) (wr := ws78_p1) 3 (oc_best_n l D J hO78_p0 (3 : Int) (3 : Int) h81) dL_alike_220 gL_alike_L_best rfl rfl rfl (by decide +kernel) ⟨Nat.le_of_ble_eq_true rfl, Nat.le_of_ble_eq_true rfl⟩ ⟨Nat.le_of_ble_eq_true rfl, Nat.le_of_ble_eq_true rfl⟩ (z_spl_id _ _) rfl rfl (Nat.le_of_ble_eq_true rfl) rfl (fun E w9 hq => hq.elim) (fun rv w79 hq => ?_)
          obtain ⟨rfl, hr79, hO79⟩ := hq
          refine z_ws (ws78_p1 ++ w79) rfl ?_
          refine z_aload_n (pc' := 224) 1 dL_alike_223 rfl rfl rfl ?_
          refine z_iconst (pc' := 225) dL_alike_224 rfl ?_
          refine z_iconst (pc' := 226) dL_alike_225 rfl ?_
          obtain ⟨q83, h84, hsh⟩ := zbind hsh
          refine z_callSw (pc' := 229) (As := [.ref a_p1, .int (zi (3 : Int)), .int (zi (3 : Int))]) (rest := [.int (zi q80)]) (wr := w79) 3 (oc_best_n l D J hO78_p1 (3 : Int) (3 : Int) h84) dL_alike_226 gL_alike_L_best rfl rfl rfl (by decide +kernel) ⟨Nat.le_of_ble_eq_true rfl, Nat.le_of_ble_eq_true rfl⟩ ⟨Nat.le_of_ble_eq_true rfl, Nat.le_of_ble_eq_true rfl⟩ (z_spl_id _ _) rfl rfl (Nat.le_of_ble_eq_true rfl) rfl (fun E w9 hq => hq.elim) (fun rv w82 hq => ?_)
          obtain ⟨rfl, hr82, hO82⟩ := hq
          refine z_ws (w79 ++ w82) rfl ?_
          refine z_icmp_ne (pc' := 232) (tgt := 306) dL_alike_229 (by decide) hr79 hr82 rfl (fun q => ?_) (fun q => ?_)
          · replace hsh := zif_f q hsh
            cases hsh
          · replace hsh := zif_t q hsh
            refine z_aload_n (pc' := 233) 0 dL_alike_232 rfl rfl rfl ?_
            refine z_bipush (pc' := 235) dL_alike_233 (by decide) rfl ?_
            obtain ⟨q86, h87, hsh⟩ := zbind hsh
            refine z_callSw (pc' := 238) (As := [.ref a_p0, .int (zi (9 : Int))]) (rest := []) (wr := w82) 2 (oc_ahead_n l D J hO79 (9 : Int) h87) dL_alike_235 gL_alike_L_ahead rfl rfl rfl (by decide +kernel) ⟨Nat.le_of_ble_eq_true rfl, Nat.le_of_ble_eq_true rfl⟩ ⟨Nat.le_of_ble_eq_true rfl, Nat.le_of_ble_eq_true rfl⟩ (z_spl_id _ _) rfl rfl (Nat.le_of_ble_eq_true rfl) rfl (fun E w9 hq => hq.elim) (fun rv w85 hq => ?_)
            obtain ⟨rfl, hr85, hO85⟩ := hq
            refine z_ws (w82 ++ w85) rfl ?_
            refine z_aload_n (pc' := 239) 1 dL_alike_238 rfl rfl rfl ?_
            refine z_bipush (pc' := 241) dL_alike_239 (by decide) rfl ?_
            obtain ⟨q89, h90, hsh⟩ := zbind hsh
            refine z_callSw (pc' := 244) (As := [.ref a_p1, .int (zi (9 : Int))]) (rest := [.int (zi q86)]) (wr := w85) 2 (oc_ahead_n l D J hO82 (9 : Int) h90) dL_alike_241 gL_alike_L_ahead rfl rfl rfl (by decide +kernel) ⟨Nat.le_of_ble_eq_true rfl, Nat.le_of_ble_eq_true rfl⟩ ⟨Nat.le_of_ble_eq_true rfl, Nat.le_of_ble_eq_true rfl⟩ (z_spl_id _ _) rfl rfl (Nat.le_of_ble_eq_true rfl) rfl (fun E w9 hq => hq.elim) (fun rv w88 hq => ?_)
            obtain ⟨rfl, hr88, hO88⟩ := hq
            refine z_ws (w85 ++ w88) rfl ?_
            refine z_icmp_ne (pc' := 247) (tgt := 306) dL_alike_244 (by decide) hr85 hr88 rfl (fun q => ?_) (fun q => ?_)
            · replace hsh := zif_f q hsh
              cases hsh
            · replace hsh := zif_t q hsh
              refine z_aload_n (pc' := 248) 0 dL_alike_247 rfl rfl rfl ?_
              refine z_iconst (pc' := 249) dL_alike_248 rfl ?_
              refine z_bipush (pc' := 251) dL_alike_249 (by decide) rfl ?_
              obtain ⟨q92, h93, hsh⟩ := zbind hsh
              refine z_callSw (pc' := 254) (As := [.ref a_p0, .int (zi (2 : Int)), .int (zi (55 : Int))]) (rest := []) (wr := w88) 3 (oc_origins_n l D J hO85 (2 : Int) (55 : Int) h93) dL_alike_251 gL_alike_L_origins rfl rfl rfl (by decide +kernel) ⟨Nat.le_of_ble_eq_true rfl, Nat.le_of_ble_eq_true rfl⟩ ⟨Nat.le_of_ble_eq_true rfl, Nat.le_of_ble_eq_true rfl⟩ (z_spl_id _ _) rfl rfl (Nat.le_of_ble_eq_true rfl) rfl (fun E w9 hq => hq.elim) (fun rv w91 hq => ?_)
              obtain ⟨rfl, hr91, hO91⟩ := hq
              refine z_ws (w88 ++ w91) rfl ?_
              refine z_aload_n (pc' := 255) 1 dL_alike_254 rfl rfl rfl ?_
              refine z_iconst (pc' := 256) dL_alike_255 rfl ?_
              refine z_bipush (pc' := 258) dL_alike_256 (by decide) rfl ?_
              obtain ⟨q95, h96, hsh⟩ := zbind hsh
              refine z_callSw (pc' := 261) (As := [.ref a_p1, .int (zi (2 : Int)), .int (zi (55 : Int))]) (rest := [.int (zi q92)]) (wr := w91) 3 (oc_origins_n l D J hO88 (2 : Int) (55 : Int) h96) dL_alike_258 gL_alike_L_origins rfl rfl rfl (by decide +kernel) ⟨Nat.le_of_ble_eq_true rfl, Nat.le_of_ble_eq_true rfl⟩ ⟨Nat.le_of_ble_eq_true rfl, Nat.le_of_ble_eq_true rfl⟩ (z_spl_id _ _) rfl rfl (Nat.le_of_ble_eq_true rfl) rfl (fun E w9 hq => hq.elim) (fun rv w94 hq => ?_)
              obtain ⟨rfl, hr94, hO94⟩ := hq
              refine z_ws (w91 ++ w94) rfl ?_
              refine z_icmp_ne (pc' := 264) (tgt := 306) dL_alike_261 (by decide) hr91 hr94 rfl (fun q => ?_) (fun q => ?_)
              · replace hsh := zif_f q hsh
                cases hsh
              · replace hsh := zif_t q hsh
                refine z_aload_n (pc' := 265) 0 dL_alike_264 rfl rfl rfl ?_
                refine z_bipush (pc' := 267) dL_alike_265 (by decide) rfl ?_
                refine z_bipush (pc' := 269) dL_alike_267 (by decide) rfl ?_
                obtain ⟨q98, h99, hsh⟩ := zbind hsh
                refine z_callSw (pc' := 272) (As := [.ref a_p0, .int (zi (7 : Int)), .int (zi (20 : Int))]) (rest := []) (wr := w94) 3 (oc_simulate_n l D J hO91 (7 : Int) (20 : Int) h99) dL_alike_269 gL_alike_L_simulate rfl rfl rfl (by decide +kernel) ⟨Nat.le_of_ble_eq_true rfl, Nat.le_of_ble_eq_true rfl⟩ ⟨Nat.le_of_ble_eq_true rfl, Nat.le_of_ble_eq_true rfl⟩ (z_spl_id _ _) rfl rfl (Nat.le_of_ble_eq_true rfl) rfl (fun E w9 hq => hq.elim) (fun rv w97 hq => ?_)
                obtain ⟨rfl, hr97, hO97⟩ := hq
                refine z_ws (w94 ++ w97) rfl ?_
                refine z_aload_n (pc' := 273) 1 dL_alike_272 rfl rfl rfl ?_
                refine z_bipush (pc' := 275) dL_alike_273 (by decide) rfl ?_
                refine z_bipush (pc' := 277) dL_alike_275 (by decide) rfl ?_
                obtain ⟨q101, h102, hsh⟩ := zbind hsh
                refine z_callSw (pc' := 280) (As := [.ref a_p1, .int (zi (7 : Int)), .int (zi (20 : Int))]) (rest := [.int (zi q98)]) (wr := w97) 3 (oc_simulate_n l D J hO94 (7 : Int) (20 : Int) h102) dL_alike_277 gL_alike_L_simulate rfl rfl rfl (by decide +kernel) ⟨Nat.le_of_ble_eq_true rfl, Nat.le_of_ble_eq_true rfl⟩ ⟨Nat.le_of_ble_eq_true rfl, Nat.le_of_ble_eq_true rfl⟩ (z_spl_id _ _) rfl rfl (Nat.le_of_ble_eq_true rfl) rfl (fun E w9 hq => hq.elim) (fun rv w100 hq => ?_)
                obtain ⟨rfl, hr100, hO100⟩ := hq
                refine z_ws (w97 ++ w100) rfl ?_
                refine z_icmp_ne (pc' := 283) (tgt := 306) dL_alike_280 (by decide) hr97 hr100 rfl (fun q => ?_) (fun q => ?_)
                · replace hsh := zif_f q hsh
                  cases hsh
                · replace hsh := zif_t q hsh
                  refine z_aload_n (pc' := 284) 0 dL_alike_283 rfl rfl rfl ?_
                  refine z_iconst (pc' := 285) dL_alike_284 rfl ?_
                  refine z_ldc2 (pc' := 288) (10016003 : Int) dL_alike_285 mL_alike_k233 (by decide) rfl ?_
                  obtain ⟨q104, h105, hsh⟩ := zbind hsh
                  refine z_callSw (pc' := 291) (As := [.ref a_p0, .int (zi (2 : Int)), .long (zl (10016003 : Int))]) (rest := []) (wr := w100) 3 (oc_script_n l D J hO97 (2 : Int) (10016003 : Int) h105) dL_alike_288 gL_alike_L_script rfl rfl rfl (by decide +kernel) ⟨Nat.le_of_ble_eq_true rfl, Nat.le_of_ble_eq_true rfl⟩ ⟨Nat.le_of_ble_eq_true rfl, Nat.le_of_ble_eq_true rfl⟩ (z_spl_id _ _) rfl rfl (Nat.le_of_ble_eq_true rfl) rfl (fun E w9 hq => hq.elim) (fun rv w103 hq => ?_)
                  obtain ⟨rfl, hr103, hO103⟩ := hq
                  refine z_ws (w100 ++ w103) rfl ?_
                  refine z_aload_n (pc' := 292) 1 dL_alike_291 rfl rfl rfl ?_
                  refine z_iconst (pc' := 293) dL_alike_292 rfl ?_
                  refine z_ldc2 (pc' := 296) (10016003 : Int) dL_alike_293 mL_alike_k233 (by decide) rfl ?_
                  obtain ⟨q107, h108, hsh⟩ := zbind hsh
                  refine z_callSw (pc' := 299) (As := [.ref a_p1, .int (zi (2 : Int)), .long (zl (10016003 : Int))]) (rest := [.int (zi q104)]) (wr := w103) 3 (oc_script_n l D J hO100 (2 : Int) (10016003 : Int) h108) dL_alike_296 gL_alike_L_script rfl rfl rfl (by decide +kernel) ⟨Nat.le_of_ble_eq_true rfl, Nat.le_of_ble_eq_true rfl⟩ ⟨Nat.le_of_ble_eq_true rfl, Nat.le_of_ble_eq_true rfl⟩ (z_spl_id _ _) rfl rfl (Nat.le_of_ble_eq_true rfl) rfl (fun E w9 hq => hq.elim) (fun rv w106 hq => ?_)
                  obtain ⟨rfl, hr106, hO106⟩ := hq
                  refine z_ws (w103 ++ w106) rfl ?_
                  refine z_icmp_ne (pc' := 302) (tgt := 306) dL_alike_299 (by decide) hr103 hr106 rfl (fun q => ?_) (fun q => ?_)
                  · replace hsh := zif_f q hsh
                    cases hsh
                  · replace hsh := zif_t q hsh
                    refine z_iconst (pc' := 303) dL_alike_302 rfl ?_
                    refine z_goto (tgt := 307) dL_alike_303 (by decide) ?_
                    cases hsh
                    exact z_zret rfl (by decide) dL_alike_307 ⟨rfl, _, _, rfl, hO103, hO106⟩
