noncomputable def sh_L_loadText_L97 (F : Nat) (p1 : Int) (v27 : Int) (v28 : Int) (k : Int → Int → zO → Option (Int × zO)) : Nat → Int → Int → zO → Option (Int × zO)
  | 0, _, _, _ => none
  | N + 1, v38, v39, v40 => zkr (zand (zxor (zdiv v27 (5 : Int)) (p1 * (((2 : Int) * v28) + (3 : Int)))) (2147483647 : Int)) (zkr v39 (zkr (zmod (zand (zxor (zdiv v27 (5 : Int)) (p1 * (((2 : Int) * v28) + (3 : Int)))) (2147483647 : Int)) (4 : Int)) (if v39 < (zmod (zand (zxor (zdiv v27 (5 : Int)) (p1 * (((2 : Int) * v28) + (3 : Int)))) (2147483647 : Int)) (4 : Int)) then zkr ((4 : Int) + ((7 : Int) * v39)) (zkc (¬ ((4 : Int) + ((7 : Int) * v39)) = 0) (zkr (zdiv (zand (zxor (zdiv v27 (5 : Int)) (p1 * (((2 : Int) * v28) + (3 : Int)))) (2147483647 : Int)) ((4 : Int) + ((7 : Int) * v39))) ((kn_append v40 ((49 : Int) + (zmod (zdiv (zand (zxor (zdiv v27 (5 : Int)) (p1 * (((2 : Int) * v28) + (3 : Int)))) (2147483647 : Int)) ((4 : Int) + ((7 : Int) * v39))) (9 : Int)))).bind (fun (q48 : Int × zO) => zkr ((36 : Int) + ((11 : Int) * v39)) (zkc (¬ ((36 : Int) + ((11 : Int) * v39)) = 0) (zkr (zdiv (zand (zxor (zdiv v27 (5 : Int)) (p1 * (((2 : Int) * v28) + (3 : Int)))) (2147483647 : Int)) ((36 : Int) + ((11 : Int) * v39))) ((kn_append q48.2 ((48 : Int) + (zmod (zdiv (zand (zxor (zdiv v27 (5 : Int)) (p1 * (((2 : Int) * v28) + (3 : Int)))) (2147483647 : Int)) ((36 : Int) + ((11 : Int) * v39))) (10 : Int)))).bind (fun (q54 : Int × zO) => sh_L_loadText_L97 F p1 v27 v28 k N (v38 + (q48.1 + q54.1)) (v39 + (1 : Int)) q54.2)))))))) else k v38 v39 v40)))
noncomputable def sh_L_loadText_L67 (F : Nat) (p1 : Int) (k : Int → Int → Int → zO → Option (Int × zO)) : Nat → Int → Int → Int → zO → Option (Int × zO)
  | 0, _, _, _, _ => none
  | N + 1, v26, v27, v28, v29 => zkr v28 (zkr (((1 : Int) + (zmod p1 (4 : Int))) * ((1 : Int) + (zmod (zdiv p1 (4 : Int)) (4 : Int)))) (if v28 < (((1 : Int) + (zmod p1 (4 : Int))) * ((1 : Int) + (zmod (zdiv p1 (4 : Int)) (4 : Int)))) then zkr v27 (sh_L_loadText_L97 F p1 v27 v28 (fun (v56 : Int) (v57 : Int) (v58 : zO) => (kn_append v58 (59 : Int)).bind (fun (q61 : Int × zO) => sh_L_loadText_L67 F p1 k N (v56 + q61.1) (zand (zxor (zdiv v27 (5 : Int)) (p1 * (((2 : Int) * v28) + (3 : Int)))) (2147483647 : Int)) (v28 + (1 : Int)) q61.2)) F v26 (0 : Int) v29) else k v26 v27 v28 v29))
noncomputable def sh_L_loadText (F : Nat) (A_p0 : zO) (p1 : Int) (p2 : Int) : Option (Int × zO) := zkr p1 (zkr (zdiv p1 (4 : Int)) ((kd_clearText A_p0).bind (fun (q4 : Int × zO) => (kn_append q4.2 (68 : Int)).bind (fun (q7 : Int × zO) => (kn_append q7.2 ((48 : Int) + ((1 : Int) + (zmod p1 (4 : Int))))).bind (fun (q10 : Int × zO) => (kn_append q10.2 ((48 : Int) + ((1 : Int) + (zmod (zdiv p1 (4 : Int)) (4 : Int))))).bind (fun (q13 : Int × zO) => zkr (zdiv p1 (16 : Int)) ((kn_append q13.2 ((49 : Int) + (zmod (zdiv p1 (16 : Int)) (4 : Int)))).bind (fun (q17 : Int × zO) => sh_L_loadText_L67 F p1 (fun (v63 : Int) (v64 : Int) (v65 : Int) (v66 : zO) => zkr (zmod p1 (31 : Int)) (if (zmod p1 (31 : Int)) = (0 : Int) then zkr p2 (zkc (0 ≤ (zmod p2 (6 : Int)) ∧ (zmod p2 (6 : Int)) < 6) ((kn_append v66 (zch (zmod p2 (6 : Int)))).bind (fun (q76 : Int × zO) => (kx_load q76.2).bind (fun (q79 : Int × zO) => some ((((53 : Int) * (v63 + q76.1)) + q79.1), q79.2))))) else (kx_load v66).bind (fun (q70 : Int × zO) => some ((((53 : Int) * (v63 + (0 : Int))) + q70.1), q70.2)))) F ((((q4.1 + q7.1) + q10.1) + q13.1) + q17.1) p2 (0 : Int) q17.2))))))))
theorem mL_loadText_k8 : Cond.constant RL 8 (2147483647) ∈ wsL_loadText := List.mem_of_getElem? (i := 1) rfl
set_option maxRecDepth 100000 in
set_option maxHeartbeats 4000000 in
theorem zl_L_loadText_L97 {p : Program} {l : Launch} {e : Env} {s : State} {m : MethodId} {args : Array Value} {below : List Frame} {meth : Method} {c : Code} {A : Nat → Prop} {D : va_G} {J : Nat → ClassId} {F : Nat} {a_p0 : Nat} {p1 : Int} {v27 : Int} {v28 : Int} {p2 : Int} {res : Int × zO} {k : Int → Int → zO → Option (Int × zO)} (hk : ∀ (v38' : Int) (v39' : Int) (v40' : zO) (ws_p0' : va_W), cOB J a_p0 v40' ws_p0' → k v38' v39' v40' = some res → Z p l e ({ frames := 9, cells := 1, slots := 6, locals := 156 } : Room) s m args below meth c (MQ below (zQ D J A (fun rv w9 => rv = some (.int (zi res.1)) ∧ cOB J a_p0 res.2 w9)) args s 1 6 A) cL_loadText 9 wsL_loadText RL D J A (some .int) (yL_loadText.name, []) 0 0 ws_p0' [(0, .ref a_p0), (1, .int (zi p1)), (2, .int (zi p2)), (3, .int (zi ((1 : Int) + (zmod p1 (4 : Int))))), (4, .int (zi ((1 : Int) + (zmod (zdiv p1 (4 : Int)) (4 : Int))))), (5, .int (zi v38')), (6, .int (zi (zand (zxor (zdiv v27 (5 : Int)) (p1 * (((2 : Int) * v28) + (3 : Int)))) (2147483647 : Int)))), (7, .int (zi v28))] 159 []) : ∀ (N : Nat) (v38 : Int) (v39 : Int) (v40 : zO) (ws_p0 : va_W), cOB J a_p0 v40 ws_p0 → sh_L_loadText_L97 F p1 v27 v28 k N v38 v39 v40 = some res → Z p l e ({ frames := 9, cells := 1, slots := 6, locals := 156 } : Room) s m args below meth c (MQ below (zQ D J A (fun rv w9 => rv = some (.int (zi res.1)) ∧ cOB J a_p0 res.2 w9)) args s 1 6 A) cL_loadText 9 wsL_loadText RL D J A (some .int) (yL_loadText.name, []) 0 0 ws_p0 [(0, .ref a_p0), (1, .int (zi p1)), (2, .int (zi p2)), (3, .int (zi ((1 : Int) + (zmod p1 (4 : Int))))), (4, .int (zi ((1 : Int) + (zmod (zdiv p1 (4 : Int)) (4 : Int))))), (5, .int (zi v38)), (6, .int (zi (zand (zxor (zdiv v27 (5 : Int)) (p1 * (((2 : Int) * v28) + (3 : Int)))) (2147483647 : Int)))), (7, .int (zi v28)), (8, .int (zi v39))] 97 [] := by
  intro N
  induction N with
  | zero =>
    intro v38 v39 v40 ws_p0 hO_p0 hsh
    exact absurd hsh (by simp [sh_L_loadText_L97])
  | succ N ih =>
    intro v38 v39 v40 ws_p0 hO_p0 hsh
    rw [sh_L_loadText_L97] at hsh
    refine z_iload (pc' := 99) 8 dL_loadText_97 rfl rfl ?_
    refine z_iload (pc' := 101) 6 dL_loadText_99 rfl rfl ?_
    refine z_iconst (pc' := 102) dL_loadText_101 rfl ?_
    have g41 := zkr_p hsh
    replace hsh := zkr_k hsh
    refine z_irem (pc' := 103) dL_loadText_102 g41 (by decide) (by decide) rfl ?_
    have g42 := zkr_p hsh
    replace hsh := zkr_k hsh
    have g43 := zkr_p hsh
    replace hsh := zkr_k hsh
    refine z_icmp_ge (pc' := 106) (tgt := 159) dL_loadText_103 (by decide) g42 g43 rfl (fun q => ?_) (fun q => ?_)
    · replace hsh := zif_f q hsh
      refine z_lv [(0, .ref a_p0), (1, .int (zi p1)), (2, .int (zi p2)), (3, .int (zi ((1 : Int) + (zmod p1 (4 : Int))))), (4, .int (zi ((1 : Int) + (zmod (zdiv p1 (4 : Int)) (4 : Int))))), (5, .int (zi v38)), (6, .int (zi (zand (zxor (zdiv v27 (5 : Int)) (p1 * (((2 : Int) * v28) + (3 : Int)))) (2147483647 : Int)))), (7, .int (zi v28))] [0, 1, 2, 3, 4, 5, 6, 7] rfl ?_
      exact hk _ _ _ _ hO_p0 hsh
    · replace hsh := zif_t q hsh
      refine z_iload (pc' := 108) 5 dL_loadText_106 rfl rfl ?_
      refine z_aload_n (pc' := 109) 0 dL_loadText_108 rfl rfl rfl ?_
      refine z_bipush (pc' := 111) dL_loadText_109 (by decide) rfl ?_
      refine z_iload (pc' := 113) 6 dL_loadText_111 rfl rfl ?_
      refine z_iconst (pc' := 114) dL_loadText_113 rfl ?_
      refine z_bipush (pc' := 116) dL_loadText_114 (by decide) rfl ?_
      refine z_iload (pc' := 118) 8 dL_loadText_116 rfl rfl ?_
      refine z_imul (pc' := 119) dL_loadText_118 rfl ?_
      refine z_iadd (pc' := 120) dL_loadText_119 rfl ?_
      have g44 := zkr_p hsh
      replace hsh := zkr_k hsh
      have g45 := zkc_p hsh
      replace hsh := zkc_k hsh
      refine z_idiv (pc' := 121) dL_loadText_120 g41 g44 g45 rfl ?_
      refine z_bipush (pc' := 123) dL_loadText_121 (by decide) rfl ?_
      have g46 := zkr_p hsh
      replace hsh := zkr_k hsh
      refine z_irem (pc' := 124) dL_loadText_123 g46 (by decide) (by decide) rfl ?_
      refine z_iadd (pc' := 125) dL_loadText_124 rfl ?_
      obtain ⟨q48, h49, hsh⟩ := zbind hsh
      refine z_callSw (pc' := 128) (As := [.ref a_p0, .int (zi ((49 : Int) + (zmod (zdiv (zand (zxor (zdiv v27 (5 : Int)) (p1 * (((2 : Int) * v28) + (3 : Int)))) (2147483647 : Int)) ((4 : Int) + ((7 : Int) * v39))) (9 : Int))))]) (rest := [.int (zi v38)]) (wr := []) 2 (oc_append_n l D J hO_p0 ((49 : Int) + (zmod (zdiv (zand (zxor (zdiv v27 (5 : Int)) (p1 * (((2 : Int) * v28) + (3 : Int)))) (2147483647 : Int)) ((4 : Int) + ((7 : Int) * v39))) (9 : Int))) h49) dL_loadText_125 gL_loadText_L_append rfl rfl rfl (by decide +kernel) ⟨Nat.le_of_ble_eq_true rfl, Nat.le_of_ble_eq_true rfl⟩ ⟨Nat.le_of_ble_eq_true rfl, Nat.le_of_ble_eq_true rfl⟩ (z_spl_nil _) rfl rfl (Nat.le_of_ble_eq_true rfl) rfl (fun E w9 hq => hq.elim) (fun rv w47 hq => ?_)
      obtain ⟨rfl, hr47, hO47⟩ := hq
      refine z_ws w47 rfl ?_
      refine z_aload_n (pc' := 129) 0 dL_loadText_128 rfl rfl rfl ?_
      refine z_bipush (pc' := 131) dL_loadText_129 (by decide) rfl ?_
      refine z_iload (pc' := 133) 6 dL_loadText_131 rfl rfl ?_
      refine z_bipush (pc' := 135) dL_loadText_133 (by decide) rfl ?_
      refine z_bipush (pc' := 137) dL_loadText_135 (by decide) rfl ?_
      refine z_iload (pc' := 139) 8 dL_loadText_137 rfl rfl ?_
      refine z_imul (pc' := 140) dL_loadText_139 rfl ?_
      refine z_iadd (pc' := 141) dL_loadText_140 rfl ?_
      have g50 := zkr_p hsh
      replace hsh := zkr_k hsh
      have g51 := zkc_p hsh
      replace hsh := zkc_k hsh
      refine z_idiv (pc' := 142) dL_loadText_141 g41 g50 g51 rfl ?_
      refine z_bipush (pc' := 144) dL_loadText_142 (by decide) rfl ?_
      have g52 := zkr_p hsh
      replace hsh := zkr_k hsh
      refine z_irem (pc' := 145) dL_loadText_144 g52 (by decide) (by decide) rfl ?_
      refine z_iadd (pc' := 146) dL_loadText_145 rfl ?_
      obtain ⟨q54, h55, hsh⟩ := zbind hsh
      refine z_callSw (pc' := 149) (As := [.ref a_p0, .int (zi ((48 : Int) + (zmod (zdiv (zand (zxor (zdiv v27 (5 : Int)) (p1 * (((2 : Int) * v28) + (3 : Int)))) (2147483647 : Int)) ((36 : Int) + ((11 : Int) * v39))) (10 : Int))))]) (rest := [.int (zi q48.1), .int (zi v38)]) (wr := []) 2 (oc_append_n l D J hO47 ((48 : Int) + (zmod (zdiv (zand (zxor (zdiv v27 (5 : Int)) (p1 * (((2 : Int) * v28) + (3 : Int)))) (2147483647 : Int)) ((36 : Int) + ((11 : Int) * v39))) (10 : Int))) h55) dL_loadText_146 gL_loadText_L_append rfl rfl rfl (by decide +kernel) ⟨Nat.le_of_ble_eq_true rfl, Nat.le_of_ble_eq_true rfl⟩ ⟨Nat.le_of_ble_eq_true rfl, Nat.le_of_ble_eq_true rfl⟩ (z_spl_nil _) rfl rfl (Nat.le_of_ble_eq_true rfl) rfl (fun E w9 hq => hq.elim) (fun rv w53 hq => ?_)
      obtain ⟨rfl, hr53, hO53⟩ := hq
      refine z_ws w53 rfl ?_
      refine z_iadd (pc' := 150) dL_loadText_149 rfl ?_
      refine z_iadd (pc' := 151) dL_loadText_150 rfl ?_
      refine z_istore (pc' := 153) [(5, .int (zi (v38 + (q48.1 + q54.1)))), (0, .ref a_p0), (1, .int (zi p1)), (2, .int (zi p2)), (3, .int (zi ((1 : Int) + (zmod p1 (4 : Int))))), (4, .int (zi ((1 : Int) + (zmod (zdiv p1 (4 : Int)) (4 : Int))))), (6, .int (zi (zand (zxor (zdiv v27 (5 : Int)) (p1 * (((2 : Int) * v28) + (3 : Int)))) (2147483647 : Int)))), (7, .int (zi v28)), (8, .int (zi v39))] dL_loadText_151 (by decide) rfl rfl ?_
      refine z_iinc (pc' := 156) [(8, .int (zi (v39 + (1 : Int)))), (5, .int (zi (v38 + (q48.1 + q54.1)))), (0, .ref a_p0), (1, .int (zi p1)), (2, .int (zi p2)), (3, .int (zi ((1 : Int) + (zmod p1 (4 : Int))))), (4, .int (zi ((1 : Int) + (zmod (zdiv p1 (4 : Int)) (4 : Int))))), (6, .int (zi (zand (zxor (zdiv v27 (5 : Int)) (p1 * (((2 : Int) * v28) + (3 : Int)))) (2147483647 : Int)))), (7, .int (zi v28))] 8 dL_loadText_153 rfl (by decide) rfl rfl ?_
      refine z_goto (tgt := 97) dL_loadText_156 (by decide) ?_
      refine z_lv [(0, .ref a_p0), (1, .int (zi p1)), (2, .int (zi p2)), (3, .int (zi ((1 : Int) + (zmod p1 (4 : Int))))), (4, .int (zi ((1 : Int) + (zmod (zdiv p1 (4 : Int)) (4 : Int))))), (5, .int (zi (v38 + (q48.1 + q54.1)))), (6, .int (zi (zand (zxor (zdiv v27 (5 : Int)) (p1 * (((2 : Int) * v28) + (3 : Int)))) (2147483647 : Int)))), (7, .int (zi v28)), (8, .int (zi (v39 + (1 : Int))))] [2, 3, 4, 5, 6, 1, 7, 8, 0] rfl ?_
      exact ih _ _ _ _ hO53 hsh
set_option maxRecDepth 100000 in
set_option maxHeartbeats 4000000 in
theorem zl_L_loadText_L67 {p : Program} {l : Launch} {e : Env} {s : State} {m : MethodId} {args : Array Value} {below : List Frame} {meth : Method} {c : Code} {A : Nat → Prop} {D : va_G} {J : Nat → ClassId} {F : Nat} {a_p0 : Nat} {p1 : Int} {p2 : Int} {res : Int × zO} {k : Int → Int → Int → zO → Option (Int × zO)} (hk : ∀ (v26' : Int) (v27' : Int) (v28' : Int) (v29' : zO) (ws_p0' : va_W), cOB J a_p0 v29' ws_p0' → k v26' v27' v28' v29' = some res → Z p l e ({ frames := 9, cells := 1, slots := 6, locals := 156 } : Room) s m args below meth c (MQ below (zQ D J A (fun rv w9 => rv = some (.int (zi res.1)) ∧ cOB J a_p0 res.2 w9)) args s 1 6 A) cL_loadText 9 wsL_loadText RL D J A (some .int) (yL_loadText.name, []) 0 0 ws_p0' [(0, .ref a_p0), (1, .int (zi p1)), (2, .int (zi p2)), (5, .int (zi v26'))] 176 []) : ∀ (N : Nat) (v26 : Int) (v27 : Int) (v28 : Int) (v29 : zO) (ws_p0 : va_W), cOB J a_p0 v29 ws_p0 → sh_L_loadText_L67 F p1 k N v26 v27 v28 v29 = some res → Z p l e ({ frames := 9, cells := 1, slots := 6, locals := 156 } : Room) s m args below meth c (MQ below (zQ D J A (fun rv w9 => rv = some (.int (zi res.1)) ∧ cOB J a_p0 res.2 w9)) args s 1 6 A) cL_loadText 9 wsL_loadText RL D J A (some .int) (yL_loadText.name, []) 0 0 ws_p0 [(0, .ref a_p0), (1, .int (zi p1)), (2, .int (zi p2)), (3, .int (zi ((1 : Int) + (zmod p1 (4 : Int))))), (4, .int (zi ((1 : Int) + (zmod (zdiv p1 (4 : Int)) (4 : Int))))), (5, .int (zi v26)), (6, .int (zi v27)), (7, .int (zi v28))] 67 [] := by
  intro N
  induction N with
  | zero =>
    intro v26 v27 v28 v29 ws_p0 hO_p0 hsh
    exact absurd hsh (by simp [sh_L_loadText_L67])
  | succ N ih =>
    intro v26 v27 v28 v29 ws_p0 hO_p0 hsh
    rw [sh_L_loadText_L67] at hsh
    refine z_iload (pc' := 69) 7 dL_loadText_67 rfl rfl ?_
    refine z_iload_n (pc' := 70) 3 dL_loadText_69 rfl rfl rfl ?_
    refine z_iload (pc' := 72) 4 dL_loadText_70 rfl rfl ?_
    refine z_imul (pc' := 73) dL_loadText_72 rfl ?_
    have g30 := zkr_p hsh
    replace hsh := zkr_k hsh
    have g31 := zkr_p hsh
    replace hsh := zkr_k hsh
    refine z_icmp_ge (pc' := 76) (tgt := 176) dL_loadText_73 (by decide) g30 g31 rfl (fun q => ?_) (fun q => ?_)
    · replace hsh := zif_f q hsh
      refine z_lv [(0, .ref a_p0), (1, .int (zi p1)), (2, .int (zi p2)), (5, .int (zi v26))] [0, 1, 2, 5] rfl ?_
      exact hk _ _ _ _ _ hO_p0 hsh
    · replace hsh := zif_t q hsh
      refine z_iload (pc' := 78) 6 dL_loadText_76 rfl rfl ?_
      refine z_iconst (pc' := 79) dL_loadText_78 rfl ?_
      have g32 := zkr_p hsh
      replace hsh := zkr_k hsh
      refine z_idiv (pc' := 80) dL_loadText_79 g32 (by decide) (by decide) rfl ?_
      refine z_iload_n (pc' := 81) 1 dL_loadText_80 rfl rfl rfl ?_
      refine z_iconst (pc' := 82) dL_loadText_81 rfl ?_
      refine z_iload (pc' := 84) 7 dL_loadText_82 rfl rfl ?_
      refine z_imul (pc' := 85) dL_loadText_84 rfl ?_
      refine z_iconst (pc' := 86) dL_loadText_85 rfl ?_
      refine z_iadd (pc' := 87) dL_loadText_86 rfl ?_
      refine z_imul (pc' := 88) dL_loadText_87 rfl ?_
      refine z_ixor (pc' := 89) dL_loadText_88 rfl ?_
      refine z_ldc (pc' := 91) (2147483647 : Int) dL_loadText_89 mL_loadText_k8 (by decide) rfl ?_
      refine z_iand (pc' := 92) dL_loadText_91 rfl ?_
      refine z_istore (pc' := 94) [(6, .int (zi (zand (zxor (zdiv v27 (5 : Int)) (p1 * (((2 : Int) * v28) + (3 : Int)))) (2147483647 : Int)))), (0, .ref a_p0), (1, .int (zi p1)), (2, .int (zi p2)), (3, .int (zi ((1 : Int) + (zmod p1 (4 : Int))))), (4, .int (zi ((1 : Int) + (zmod (zdiv p1 (4 : Int)) (4 : Int))))), (5, .int (zi v26)), (7, .int (zi v28))] dL_loadText_92 (by decide) rfl rfl ?_
      refine z_iconst (pc' := 95) dL_loadText_94 rfl ?_
      refine z_istore (pc' := 97) [(8, .int (zi (0 : Int))), (6, .int (zi (zand (zxor (zdiv v27 (5 : Int)) (p1 * (((2 : Int) * v28) + (3 : Int)))) (2147483647 : Int)))), (0, .ref a_p0), (1, .int (zi p1)), (2, .int (zi p2)), (3, .int (zi ((1 : Int) + (zmod p1 (4 : Int))))), (4, .int (zi ((1 : Int) + (zmod (zdiv p1 (4 : Int)) (4 : Int))))), (5, .int (zi v26)), (7, .int (zi v28))] dL_loadText_95 (by decide) rfl rfl ?_
      refine z_lv [(0, .ref a_p0), (1, .int (zi p1)), (2, .int (zi p2)), (3, .int (zi ((1 : Int) + (zmod p1 (4 : Int))))), (4, .int (zi ((1 : Int) + (zmod (zdiv p1 (4 : Int)) (4 : Int))))), (5, .int (zi v26)), (6, .int (zi (zand (zxor (zdiv v27 (5 : Int)) (p1 * (((2 : Int) * v28) + (3 : Int)))) (2147483647 : Int)))), (7, .int (zi v28)), (8, .int (zi (0 : Int)))] [2, 3, 4, 5, 6, 7, 1, 8, 0] rfl ?_
      refine zl_L_loadText_L97 (F := F) (hk := fun v56 v57 v58 ws59_p0 hO59_p0 hsh => ?_) _ _ _ _ _ hO_p0 hsh
      refine z_iload (pc' := 161) 5 dL_loadText_159 rfl rfl ?_
      refine z_aload_n (pc' := 162) 0 dL_loadText_161 rfl rfl rfl ?_
      refine z_bipush (pc' := 164) dL_loadText_162 (by decide) rfl ?_
      obtain ⟨q61, h62, hsh⟩ := zbind hsh
      refine z_callSw (pc' := 167) (As := [.ref a_p0, .int (zi (59 : Int))]) (rest := [.int (zi v56)]) (wr := []) 2 (oc_append_n l D J hO59_p0 (59 : Int) h62) dL_loadText_164 gL_loadText_L_append rfl rfl rfl (by decide +kernel) ⟨Nat.le_of_ble_eq_true rfl, Nat.le_of_ble_eq_true rfl⟩ ⟨Nat.le_of_ble_eq_true rfl, Nat.le_of_ble_eq_true rfl⟩ (z_spl_nil _) rfl rfl (Nat.le_of_ble_eq_true rfl) rfl (fun E w9 hq => hq.elim) (fun rv w60 hq => ?_)
      obtain ⟨rfl, hr60, hO60⟩ := hq
      refine z_ws w60 rfl ?_
      refine z_iadd (pc' := 168) dL_loadText_167 rfl ?_
      refine z_istore (pc' := 170) [(5, .int (zi (v56 + q61.1))), (0, .ref a_p0), (1, .int (zi p1)), (2, .int (zi p2)), (3, .int (zi ((1 : Int) + (zmod p1 (4 : Int))))), (4, .int (zi ((1 : Int) + (zmod (zdiv p1 (4 : Int)) (4 : Int))))), (6, .int (zi (zand (zxor (zdiv v27 (5 : Int)) (p1 * (((2 : Int) * v28) + (3 : Int)))) (2147483647 : Int)))), (7, .int (zi v28))] dL_loadText_168 (by decide) rfl rfl ?_
      refine z_iinc (pc' := 173) [(7, .int (zi (v28 + (1 : Int)))), (5, .int (zi (v56 + q61.1))), (0, .ref a_p0), (1, .int (zi p1)), (2, .int (zi p2)), (3, .int (zi ((1 : Int) + (zmod p1 (4 : Int))))), (4, .int (zi ((1 : Int) + (zmod (zdiv p1 (4 : Int)) (4 : Int))))), (6, .int (zi (zand (zxor (zdiv v27 (5 : Int)) (p1 * (((2 : Int) * v28) + (3 : Int)))) (2147483647 : Int))))] 7 dL_loadText_170 rfl (by decide) rfl rfl ?_
      refine z_goto (tgt := 67) dL_loadText_173 (by decide) ?_
      refine z_lv [(0, .ref a_p0), (1, .int (zi p1)), (2, .int (zi p2)), (3, .int (zi ((1 : Int) + (zmod p1 (4 : Int))))), (4, .int (zi ((1 : Int) + (zmod (zdiv p1 (4 : Int)) (4 : Int))))), (5, .int (zi (v56 + q61.1))), (6, .int (zi (zand (zxor (zdiv v27 (5 : Int)) (p1 * (((2 : Int) * v28) + (3 : Int)))) (2147483647 : Int)))), (7, .int (zi (v28 + (1 : Int))))] [2, 3, 4, 5, 6, 1, 7, 0] rfl ?_
      exact ih _ _ _ _ _ hO60 hsh
set_option maxRecDepth 100000 in
set_option maxHeartbeats 4000000 in
theorem zc_L_loadText (l : Launch) (D : va_G) (J : Nat → ClassId) (F : Nat) {a_p0 : Nat} {A_p0 : zO} {ws_p0 : va_W} (hO_p0 : cOB J a_p0 A_p0 ws_p0) (p1 : Int) (p2 : Int) (res : Int × zO) (hsh : sh_L_loadText F A_p0 p1 p2 = some res) : ZM l D J yL_loadText wsL_loadText ({ frames := 9, cells := 1, slots := 6, locals := 156 } : Room) 1 6 [.ref a_p0, .int (zi p1), .int (zi p2)] ws_p0 (fun rv w9 => rv = some (.int (zi res.1)) ∧ cOB J a_p0 res.2 w9) := by
  refine z_ofZ (cc := cL_loadText) (maxL := 9) (ret := (some .int)) 1 6 (by decide) rfl (Nat.le_of_ble_eq_true rfl) [(0, .ref a_p0), (1, .int (zi p1)), (2, .int (zi p2))] rfl ?_
  intro p e s m args below meth c A
  unfold sh_L_loadText at hsh
  refine z_iconst (pc' := 1) dL_loadText_0 rfl ?_
  refine z_iload_n (pc' := 2) 1 dL_loadText_1 rfl rfl rfl ?_
  refine z_iconst (pc' := 3) dL_loadText_2 rfl ?_
  have g1 := zkr_p hsh
  replace hsh := zkr_k hsh
  refine z_irem (pc' := 4) dL_loadText_3 g1 (by decide) (by decide) rfl ?_
  refine z_iadd (pc' := 5) dL_loadText_4 rfl ?_
  refine z_istore_n (pc' := 6) [(3, .int (zi ((1 : Int) + (zmod p1 (4 : Int))))), (0, .ref a_p0), (1, .int (zi p1)), (2, .int (zi p2))] dL_loadText_5 rfl (by decide) rfl rfl ?_
  refine z_iconst (pc' := 7) dL_loadText_6 rfl ?_
  refine z_iload_n (pc' := 8) 2 dL_loadText_7 rfl rfl rfl ?_
  refine z_iconst (pc' := 9) dL_loadText_8 rfl ?_
  refine z_idiv (pc' := 10) dL_loadText_9 g1 (by decide) (by decide) rfl ?_
  refine z_iconst (pc' := 11) dL_loadText_10 rfl ?_
  have g2 := zkr_p hsh
  replace hsh := zkr_k hsh
  refine z_irem (pc' := 12) dL_loadText_11 g2 (by decide) (by decide) rfl ?_
  refine z_iadd (pc' := 13) dL_loadText_12 rfl ?_
  refine z_istore (pc' := 15) [(4, .int (zi ((1 : Int) + (zmod (zdiv p1 (4 : Int)) (4 : Int))))), (3, .int (zi ((1 : Int) + (zmod p1 (4 : Int))))), (0, .ref a_p0), (1, .int (zi p1)), (2, .int (zi p2))] dL_loadText_13 (by decide) rfl rfl ?_
  refine z_aload_n (pc' := 16) 2 dL_loadText_15 rfl rfl rfl ?_
  obtain ⟨q4, h5, hsh⟩ := zbind hsh
  obtain ⟨fs3, h0_3⟩ := hO_p0.h0
  refine z_callV (pc' := 19) (C := RX8) (As := []) (rest := []) (wr := []) 0 (oc_clearText_d l D J hO_p0 h5) dL_loadText_16 gL_loadText_X8_clearText rfl rfl rfl (by decide +kernel) ⟨Nat.le_of_ble_eq_true rfl, Nat.le_of_ble_eq_true rfl⟩ ⟨Nat.le_of_ble_eq_true rfl, Nat.le_of_ble_eq_true rfl⟩ (z_spl_nil _) h0_3 rfl rfl rfl (Nat.le_of_ble_eq_true rfl) rfl (fun rv w3 hq => ?_)
  obtain ⟨rfl, hr3, hO3⟩ := hq
  refine z_ws w3 rfl ?_
  refine z_aload_n (pc' := 20) 2 dL_loadText_19 rfl rfl rfl ?_
  refine z_bipush (pc' := 22) dL_loadText_20 (by decide) rfl ?_
  obtain ⟨q7, h8, hsh⟩ := zbind hsh
  refine z_callSw (pc' := 25) (As := [.ref a_p0, .int (zi (68 : Int))]) (rest := [.int (zi q4.1)]) (wr := []) 2 (oc_append_n l D J hO3 (68 : Int) h8) dL_loadText_22 gL_loadText_L_append rfl rfl rfl (by decide +kernel) ⟨Nat.le_of_ble_eq_true rfl, Nat.le_of_ble_eq_true rfl⟩ ⟨Nat.le_of_ble_eq_true rfl, Nat.le_of_ble_eq_true rfl⟩ (z_spl_nil _) rfl rfl (Nat.le_of_ble_eq_true rfl) rfl (fun E w9 hq => hq.elim) (fun rv w6 hq => ?_)
  obtain ⟨rfl, hr6, hO6⟩ := hq
  refine z_ws w6 rfl ?_
  refine z_iadd (pc' := 26) dL_loadText_25 rfl ?_
  refine z_aload_n (pc' := 27) 2 dL_loadText_26 rfl rfl rfl ?_
  refine z_bipush (pc' := 29) dL_loadText_27 (by decide) rfl ?_
  refine z_iload_n (pc' := 30) 1 dL_loadText_29 rfl rfl rfl ?_
  refine z_iadd (pc' := 31) dL_loadText_30 rfl ?_
  obtain ⟨q10, h11, hsh⟩ := zbind hsh
  refine z_callSw (pc' := 34) (As := [.ref a_p0, .int (zi ((48 : Int) + ((1 : Int) + (zmod p1 (4 : Int)))))]) (rest := [.int (zi (q4.1 + q7.1))]) (wr := []) 2 (oc_append_n l D J hO6 ((48 : Int) + ((1 : Int) + (zmod p1 (4 : Int)))) h11) dL_loadText_31 gL_loadText_L_append rfl rfl rfl (by decide +kernel) ⟨Nat.le_of_ble_eq_true rfl, Nat.le_of_ble_eq_true rfl⟩ ⟨Nat.le_of_ble_eq_true rfl, Nat.le_of_ble_eq_true rfl⟩ (z_spl_nil _) rfl rfl (Nat.le_of_ble_eq_true rfl) rfl (fun E w9 hq => hq.elim) (fun rv w9 hq => ?_)
  obtain ⟨rfl, hr9, hO9⟩ := hq
  refine z_ws w9 rfl ?_
  refine z_iadd (pc' := 35) dL_loadText_34 rfl ?_
  refine z_aload_n (pc' := 36) 2 dL_loadText_35 rfl rfl rfl ?_
  refine z_bipush (pc' := 38) dL_loadText_36 (by decide) rfl ?_
  refine z_iload (pc' := 40) 0 dL_loadText_38 rfl rfl ?_
  refine z_iadd (pc' := 41) dL_loadText_40 rfl ?_
  obtain ⟨q13, h14, hsh⟩ := zbind hsh
  refine z_callSw (pc' := 44) (As := [.ref a_p0, .int (zi ((48 : Int) + ((1 : Int) + (zmod (zdiv p1 (4 : Int)) (4 : Int)))))]) (rest := [.int (zi ((q4.1 + q7.1) + q10.1))]) (wr := []) 2 (oc_append_n l D J hO9 ((48 : Int) + ((1 : Int) + (zmod (zdiv p1 (4 : Int)) (4 : Int)))) h14) dL_loadText_41 gL_loadText_L_append rfl rfl rfl (by decide +kernel) ⟨Nat.le_of_ble_eq_true rfl, Nat.le_of_ble_eq_true rfl⟩ ⟨Nat.le_of_ble_eq_true rfl, Nat.le_of_ble_eq_true rfl⟩ (z_spl_nil _) rfl rfl (Nat.le_of_ble_eq_true rfl) rfl (fun E w9 hq => hq.elim) (fun rv w12 hq => ?_)
  obtain ⟨rfl, hr12, hO12⟩ := hq
  refine z_ws w12 rfl ?_
  refine z_iadd (pc' := 45) dL_loadText_44 rfl ?_
  refine z_aload_n (pc' := 46) 2 dL_loadText_45 rfl rfl rfl ?_
  refine z_bipush (pc' := 48) dL_loadText_46 (by decide) rfl ?_
  refine z_iload_n (pc' := 49) 3 dL_loadText_48 rfl rfl rfl ?_
  refine z_bipush (pc' := 51) dL_loadText_49 (by decide) rfl ?_
  refine z_idiv (pc' := 52) dL_loadText_51 g1 (by decide) (by decide) rfl ?_
  refine z_iconst (pc' := 53) dL_loadText_52 rfl ?_
  have g15 := zkr_p hsh
  replace hsh := zkr_k hsh
  refine z_irem (pc' := 54) dL_loadText_53 g15 (by decide) (by decide) rfl ?_
  refine z_iadd (pc' := 55) dL_loadText_54 rfl ?_
  obtain ⟨q17, h18, hsh⟩ := zbind hsh
  refine z_callSw (pc' := 58) (As := [.ref a_p0, .int (zi ((49 : Int) + (zmod (zdiv p1 (16 : Int)) (4 : Int))))]) (rest := [.int (zi (((q4.1 + q7.1) + q10.1) + q13.1))]) (wr := []) 2 (oc_append_n l D J hO12 ((49 : Int) + (zmod (zdiv p1 (16 : Int)) (4 : Int))) h18) dL_loadText_55 gL_loadText_L_append rfl rfl rfl (by decide +kernel) ⟨Nat.le_of_ble_eq_true rfl, Nat.le_of_ble_eq_true rfl⟩ ⟨Nat.le_of_ble_eq_true rfl, Nat.le_of_ble_eq_true rfl⟩ (z_spl_nil _) rfl rfl (Nat.le_of_ble_eq_true rfl) rfl (fun E w9 hq => hq.elim) (fun rv w16 hq => ?_)
  obtain ⟨rfl, hr16, hO16⟩ := hq
  refine z_ws w16 rfl ?_
  refine z_iadd (pc' := 59) dL_loadText_58 rfl ?_
  refine z_istore (pc' := 61) [(5, .int (zi ((((q4.1 + q7.1) + q10.1) + q13.1) + q17.1))), (4, .int (zi ((1 : Int) + (zmod (zdiv p1 (4 : Int)) (4 : Int))))), (3, .int (zi ((1 : Int) + (zmod p1 (4 : Int))))), (0, .ref a_p0), (1, .int (zi p1)), (2, .int (zi p2))] dL_loadText_59 (by decide) rfl rfl ?_
  refine z_iload_n (pc' := 62) 5 dL_loadText_61 rfl rfl rfl ?_
  refine z_istore (pc' := 64) [(6, .int (zi p2)), (5, .int (zi ((((q4.1 + q7.1) + q10.1) + q13.1) + q17.1))), (4, .int (zi ((1 : Int) + (zmod (zdiv p1 (4 : Int)) (4 : Int))))), (3, .int (zi ((1 : Int) + (zmod p1 (4 : Int))))), (0, .ref a_p0), (1, .int (zi p1)), (2, .int (zi p2))] dL_loadText_62 (by decide) rfl rfl ?_
  refine z_iconst (pc' := 65) dL_loadText_64 rfl ?_
  refine z_istore (pc' := 67) [(7, .int (zi (0 : Int))), (6, .int (zi p2)), (5, .int (zi ((((q4.1 + q7.1) + q10.1) + q13.1) + q17.1))), (4, .int (zi ((1 : Int) + (zmod (zdiv p1 (4 : Int)) (4 : Int))))), (3, .int (zi ((1 : Int) + (zmod p1 (4 : Int))))), (0, .ref a_p0), (1, .int (zi p1)), (2, .int (zi p2))] dL_loadText_65 (by decide) rfl rfl ?_
  refine z_lv [(0, .ref a_p0), (1, .int (zi p1)), (2, .int (zi p2)), (3, .int (zi ((1 : Int) + (zmod p1 (4 : Int))))), (4, .int (zi ((1 : Int) + (zmod (zdiv p1 (4 : Int)) (4 : Int))))), (5, .int (zi ((((q4.1 + q7.1) + q10.1) + q13.1) + q17.1))), (6, .int (zi p2)), (7, .int (zi (0 : Int)))] [5, 6, 7, 4, 3, 2, 1, 0] rfl ?_
  refine zl_L_loadText_L67 (F := F) (hk := fun v63 v64 v65 v66 ws67_p0 hO67_p0 hsh => ?_) _ _ _ _ _ _ hO16 hsh
  refine z_iload (pc' := 178) 3 dL_loadText_176 rfl rfl ?_
  refine z_iload_n (pc' := 179) 1 dL_loadText_178 rfl rfl rfl ?_
  refine z_bipush (pc' := 181) dL_loadText_179 (by decide) rfl ?_
  refine z_irem (pc' := 182) dL_loadText_181 g1 (by decide) (by decide) rfl ?_
  have g68 := zkr_p hsh
  replace hsh := zkr_k hsh
  refine z_if_ne (pc' := 185) (tgt := 201) dL_loadText_182 (by decide) g68 rfl (fun q => ?_) (fun q => ?_)
  · replace hsh := zif_f q hsh
    refine z_iconst (pc' := 202) dL_loadText_201 rfl ?_
    refine z_iadd (pc' := 203) dL_loadText_202 rfl ?_
    refine z_istore (pc' := 205) [(5, .int (zi (v63 + (0 : Int)))), (0, .ref a_p0), (1, .int (zi p1)), (2, .int (zi p2))] dL_loadText_203 (by decide) rfl rfl ?_
    refine z_bipush (pc' := 207) dL_loadText_205 (by decide) rfl ?_
    refine z_iload (pc' := 209) 0 dL_loadText_207 rfl rfl ?_
    refine z_imul (pc' := 210) dL_loadText_209 rfl ?_
    refine z_aload_n (pc' := 211) 1 dL_loadText_210 rfl rfl rfl ?_
    obtain ⟨q70, h71, hsh⟩ := zbind hsh
    refine z_callSw (pc' := 214) (As := [.ref a_p0]) (rest := [.int (zi ((53 : Int) * (v63 + (0 : Int))))]) (wr := []) 1 (oc_load_x l D J hO67_p0 h71) dL_loadText_211 gL_loadText_L_load rfl rfl rfl (by decide +kernel) ⟨Nat.le_of_ble_eq_true rfl, Nat.le_of_ble_eq_true rfl⟩ ⟨Nat.le_of_ble_eq_true rfl, Nat.le_of_ble_eq_true rfl⟩ (z_spl_nil _) rfl rfl (Nat.le_of_ble_eq_true rfl) rfl (fun E w9 hq => hq.elim) (fun rv w69 hq => ?_)
    obtain ⟨rfl, hr69, hO69⟩ := hq
    refine z_ws w69 rfl ?_
    refine z_widen 1 6 (by decide) (by decide) ?_
    refine z_iadd (pc' := 215) dL_loadText_214 rfl ?_
    cases hsh
    exact z_iret rfl dL_loadText_215 ⟨rfl, hO69⟩
  · replace hsh := zif_t q hsh
    refine z_aload_n (pc' := 186) 0 dL_loadText_185 rfl rfl rfl ?_
    refine z_ldcS (pc' := 188) rfl rfl rfl dL_loadText_186 rfl ?_
    refine z_iload_n (pc' := 189) 2 dL_loadText_188 rfl rfl rfl ?_
    refine z_bipush (pc' := 191) dL_loadText_189 (by decide) rfl ?_
    have g72 := zkr_p hsh
    replace hsh := zkr_k hsh
    refine z_irem (pc' := 192) dL_loadText_191 g72 (by decide) (by decide) rfl ?_
    have g74 := zkc_p hsh
    replace hsh := zkc_k hsh
    refine z_callStr (pc' := 195) (As := [.int (zi (zmod p2 (6 : Int)))]) (rest := [.ref a_p0, .int (zi v63)]) (wr := ws67_p0) 1 (zc_charAt l D J (zmod p2 (6 : Int)) g74) dL_loadText_192 gL_loadText_J0_charAt_5068e rfl rfl rfl (by decide +kernel) ⟨Nat.le_of_ble_eq_true rfl, Nat.le_of_ble_eq_true rfl⟩ ⟨Nat.le_of_ble_eq_true rfl, Nat.le_of_ble_eq_true rfl⟩ (z_spl_e _) rfl rfl (Nat.le_of_ble_eq_true rfl) rfl (fun rv w9 hq => ?_)
    obtain ⟨rfl, rfl⟩ := hq
    refine z_ws ws67_p0 (List.append_nil _) ?_
    obtain ⟨q76, h77, hsh⟩ := zbind hsh
    refine z_callSw (pc' := 198) (As := [.ref a_p0, .int (zi (zch (zmod p2 (6 : Int))))]) (rest := [.int (zi v63)]) (wr := []) 2 (oc_append_n l D J hO67_p0 (zch (zmod p2 (6 : Int))) h77) dL_loadText_195 gL_loadText_L_append rfl rfl rfl (by decide +kernel) ⟨Nat.le_of_ble_eq_true rfl, Nat.le_of_ble_eq_true rfl⟩ ⟨Nat.le_of_ble_eq_true rfl, Nat.le_of_ble_eq_true rfl⟩ (z_spl_nil _) rfl rfl (Nat.le_of_ble_eq_true rfl) rfl (fun E w9 hq => hq.elim) (fun rv w75 hq => ?_)
    obtain ⟨rfl, hr75, hO75⟩ := hq
    refine z_ws w75 rfl ?_
    refine z_goto (tgt := 202) dL_loadText_198 (by decide) ?_
    refine z_iadd (pc' := 203) dL_loadText_202 rfl ?_
    refine z_istore (pc' := 205) [(5, .int (zi (v63 + q76.1))), (0, .ref a_p0), (1, .int (zi p1)), (2, .int (zi p2))] dL_loadText_203 (by decide) rfl rfl ?_
    refine z_bipush (pc' := 207) dL_loadText_205 (by decide) rfl ?_
    refine z_iload (pc' := 209) 0 dL_loadText_207 rfl rfl ?_
    refine z_imul (pc' := 210) dL_loadText_209 rfl ?_
    refine z_aload_n (pc' := 211) 1 dL_loadText_210 rfl rfl rfl ?_
    obtain ⟨q79, h80, hsh⟩ := zbind hsh
    refine z_callSw (pc' := 214) (As := [.ref a_p0]) (rest := [.int (zi ((53 : Int) * (v63 + q76.1)))]) (wr := []) 1 (oc_load_x l D J hO75 h80) dL_loadText_211 gL_loadText_L_load rfl rfl rfl (by decide +kernel) ⟨Nat.le_of_ble_eq_true rfl, Nat.le_of_ble_eq_true rfl⟩ ⟨Nat.le_of_ble_eq_true rfl, Nat.le_of_ble_eq_true rfl⟩ (z_spl_nil _) rfl rfl (Nat.le_of_ble_eq_true rfl) rfl (fun E w9 hq => hq.elim) (fun rv w78 hq => ?_)
    obtain ⟨rfl, hr78, hO78⟩ := hq
    refine z_ws w78 rfl ?_
    refine z_widen 1 6 (by decide) (by decide) ?_
    refine z_iadd (pc' := 215) dL_loadText_214 rfl ?_
    cases hsh
    exact z_iret rfl dL_loadText_215 ⟨rfl, hO78⟩
