noncomputable def sh_L_now_L89 (F : Nat) (A_p0 : zO) (v13 : Int) (k : Int → Int → Option (Int)) : Nat → Int → Int → Option (Int)
  | 0, _, _ => none
  | N + 1, v33, v34 => (kn_remaining A_p0 v13).bind (fun (q36 : Int) => zkr v34 (if v34 < q36 then zkl ((11 : Int) * v33) ((kn_grade A_p0 v13 v34).bind (fun (q41 : Int) => sh_L_now_L89 F A_p0 v13 k N ((zmod ((11 : Int) * v33) (1000000009 : Int)) + q41) (v34 + (1 : Int)))) else k v33 v34))
noncomputable def sh_L_now_L28 (F : Nat) (A_p0 : zO) (k : Int → Int → Option (Int)) : Nat → Int → Int → Option (Int)
  | 0, _, _ => none
  | N + 1, v12, v13 => (kd_pointCount A_p0).bind (fun (q15 : Int) => zkr v13 (if v13 < q15 then zkl ((1009 : Int) * v12) ((kn_drawn A_p0 v13).bind (fun (q20 : Int) => (kn_remaining A_p0 v13).bind (fun (q23 : Int) => (kn_slices A_p0 v13).bind (fun (q26 : Int) => (kn_hung A_p0 v13).bind (fun (q29 : Int) => sh_L_now_L89 F A_p0 v13 (fun (v43 : Int) (v44 : Int) => sh_L_now_L28 F A_p0 k N v43 (v13 + (1 : Int))) F (((((zmod ((1009 : Int) * v12) (1000000007 : Int)) + q20) + ((31 : Int) * q23)) + ((1013 : Int) * q26)) + ((10007 : Int) * q29)) (0 : Int)))))) else k v12 v13))
noncomputable def sh_L_now (F : Nat) (A_p0 : zO) : Option (Int) := (kd_totalBuckets A_p0).bind (fun (q2 : Int) => (kd_totalGrade A_p0).bind (fun (q5 : Int) => (kd_bound A_p0).bind (fun (q8 : Int) => sh_L_now_L28 F A_p0 (fun (v46 : Int) (v47 : Int) => some (v46)) F ((((1009 : Int) * q2) + q5) + ((31 : Int) * q8)) (0 : Int))))
theorem mL_now_k200 : Cond.constantLong RL 200 (1009) ∈ wsL_now := List.mem_of_getElem? (i := 1) rfl
theorem mL_now_k208 : Cond.constantLong RL 208 (31) ∈ wsL_now := List.mem_of_getElem? (i := 2) rfl
theorem mL_now_k213 : Cond.constantLong RL 213 (1000000007) ∈ wsL_now := List.mem_of_getElem? (i := 3) rfl
theorem mL_now_k215 : Cond.constantLong RL 215 (1013) ∈ wsL_now := List.mem_of_getElem? (i := 4) rfl
theorem mL_now_k217 : Cond.constantLong RL 217 (10007) ∈ wsL_now := List.mem_of_getElem? (i := 5) rfl
theorem mL_now_k219 : Cond.constantLong RL 219 (11) ∈ wsL_now := List.mem_of_getElem? (i := 6) rfl
theorem mL_now_k221 : Cond.constantLong RL 221 (1000000009) ∈ wsL_now := List.mem_of_getElem? (i := 7) rfl
set_option maxRecDepth 100000 in
set_option maxHeartbeats 4000000 in
theorem zl_L_now_L89 {p : Program} {l : Launch} {e : Env} {s : State} {m : MethodId} {args : Array Value} {below : List Frame} {meth : Method} {c : Code} {A : Nat → Prop} {D : va_G} {J : Nat → ClassId} {F : Nat} {a_p0 : Nat} {A_p0 : zO} {v13 : Int} {res : Int} {k : Int → Int → Option (Int)} (hk : ∀ (v33' : Int) (v34' : Int) (ws_p0' : va_W), cOB J a_p0 A_p0 ws_p0' → k v33' v34' = some res → Z p l e ({ frames := 4, cells := 0, slots := 0, locals := 87 } : Room) s m args below meth c (MQ below (zQ D J A (fun rv w9 => rv = some (.long (zl res)) ∧ cOB J a_p0 A_p0 w9)) args s 0 0 A) cL_now 5 wsL_now RL D J A (some .long) (yL_now.name, []) 0 0 ws_p0' [(0, .ref a_p0), (1, .long (zl v33')), (3, .int (zi v13))] 124 []) : ∀ (N : Nat) (v33 : Int) (v34 : Int) (ws_p0 : va_W), cOB J a_p0 A_p0 ws_p0 → sh_L_now_L89 F A_p0 v13 k N v33 v34 = some res → Z p l e ({ frames := 4, cells := 0, slots := 0, locals := 87 } : Room) s m args below meth c (MQ below (zQ D J A (fun rv w9 => rv = some (.long (zl res)) ∧ cOB J a_p0 A_p0 w9)) args s 0 0 A) cL_now 5 wsL_now RL D J A (some .long) (yL_now.name, []) 0 0 ws_p0 [(0, .ref a_p0), (1, .long (zl v33)), (3, .int (zi v13)), (4, .int (zi v34))] 89 [] := by
  intro N
  induction N with
  | zero =>
    intro v33 v34 ws_p0 hO_p0 hsh
    exact absurd hsh (by simp [sh_L_now_L89])
  | succ N ih =>
    intro v33 v34 ws_p0 hO_p0 hsh
    rw [sh_L_now_L89] at hsh
    refine z_iload (pc' := 91) 3 dL_now_89 rfl rfl ?_
    refine z_aload_n (pc' := 92) 0 dL_now_91 rfl rfl rfl ?_
    refine z_iload_n (pc' := 93) 2 dL_now_92 rfl rfl rfl ?_
    obtain ⟨q36, h37, hsh⟩ := zbind hsh
    refine z_callSw (pc' := 96) (As := [.ref a_p0, .int (zi v13)]) (rest := [.int (zi v34)]) (wr := []) 2 (oc_remaining_n l D J hO_p0 v13 h37) dL_now_93 gL_now_L_remaining rfl rfl rfl (by decide +kernel) ⟨Nat.le_of_ble_eq_true rfl, Nat.le_of_ble_eq_true rfl⟩ ⟨Nat.le_of_ble_eq_true rfl, Nat.le_of_ble_eq_true rfl⟩ (z_spl_nil _) rfl rfl (Nat.le_of_ble_eq_true rfl) rfl (fun E w9 hq => hq.elim) (fun rv w35 hq => ?_)
    obtain ⟨rfl, hr35, hO35⟩ := hq
    refine z_ws w35 rfl ?_
    have g38 := zkr_p hsh
    replace hsh := zkr_k hsh
    refine z_icmp_ge (pc' := 99) (tgt := 124) dL_now_96 (by decide) g38 hr35 rfl (fun q => ?_) (fun q => ?_)
    · replace hsh := zif_f q hsh
      refine z_lv [(0, .ref a_p0), (1, .long (zl v33)), (3, .int (zi v13))] [0, 1, 2] rfl ?_
      exact hk _ _ _ hO35 hsh
    · replace hsh := zif_t q hsh
      refine z_ldc2 (pc' := 102) (11 : Int) dL_now_99 mL_now_k219 (by decide) rfl ?_
      refine z_lload_n (pc' := 103) 1 dL_now_102 rfl rfl rfl ?_
      refine z_lmul (pc' := 104) dL_now_103 rfl ?_
      refine z_ldc2 (pc' := 107) (1000000009 : Int) dL_now_104 mL_now_k221 (by decide) rfl ?_
      have g39 := zkl_p hsh
      replace hsh := zkl_k hsh
      refine z_lrem (pc' := 108) dL_now_107 g39 (by decide) (by decide) rfl ?_
      refine z_aload_n (pc' := 109) 0 dL_now_108 rfl rfl rfl ?_
      refine z_iload_n (pc' := 110) 2 dL_now_109 rfl rfl rfl ?_
      refine z_iload (pc' := 112) 3 dL_now_110 rfl rfl ?_
      obtain ⟨q41, h42, hsh⟩ := zbind hsh
      refine z_callSw (pc' := 115) (As := [.ref a_p0, .int (zi v13), .int (zi v34)]) (rest := [.long (zl (zmod ((11 : Int) * v33) (1000000009 : Int)))]) (wr := []) 3 (oc_grade_n l D J hO35 v13 v34 h42) dL_now_112 gL_now_L_grade rfl rfl rfl (by decide +kernel) ⟨Nat.le_of_ble_eq_true rfl, Nat.le_of_ble_eq_true rfl⟩ ⟨Nat.le_of_ble_eq_true rfl, Nat.le_of_ble_eq_true rfl⟩ (z_spl_nil _) rfl rfl (Nat.le_of_ble_eq_true rfl) rfl (fun E w9 hq => hq.elim) (fun rv w40 hq => ?_)
      obtain ⟨rfl, hr40, hO40⟩ := hq
      refine z_ws w40 rfl ?_
      refine z_i2l (pc' := 116) dL_now_115 hr40 rfl ?_
      refine z_ladd (pc' := 117) dL_now_116 rfl ?_
      refine z_lstore_n (pc' := 118) [(1, .long (zl ((zmod ((11 : Int) * v33) (1000000009 : Int)) + q41))), (0, .ref a_p0), (3, .int (zi v13)), (4, .int (zi v34))] dL_now_117 rfl (by decide) rfl rfl ?_
      refine z_iinc (pc' := 121) [(4, .int (zi (v34 + (1 : Int)))), (1, .long (zl ((zmod ((11 : Int) * v33) (1000000009 : Int)) + q41))), (0, .ref a_p0), (3, .int (zi v13))] 3 dL_now_118 rfl (by decide) rfl rfl ?_
      refine z_goto (tgt := 89) dL_now_121 (by decide) ?_
      refine z_lv [(0, .ref a_p0), (1, .long (zl ((zmod ((11 : Int) * v33) (1000000009 : Int)) + q41))), (3, .int (zi v13)), (4, .int (zi (v34 + (1 : Int))))] [2, 1, 3, 0] rfl ?_
      exact ih _ _ _ hO40 hsh
set_option maxRecDepth 100000 in
set_option maxHeartbeats 4000000 in
theorem zl_L_now_L28 {p : Program} {l : Launch} {e : Env} {s : State} {m : MethodId} {args : Array Value} {below : List Frame} {meth : Method} {c : Code} {A : Nat → Prop} {D : va_G} {J : Nat → ClassId} {F : Nat} {a_p0 : Nat} {A_p0 : zO} {res : Int} {k : Int → Int → Option (Int)} (hk : ∀ (v12' : Int) (v13' : Int) (ws_p0' : va_W), cOB J a_p0 A_p0 ws_p0' → k v12' v13' = some res → Z p l e ({ frames := 4, cells := 0, slots := 0, locals := 87 } : Room) s m args below meth c (MQ below (zQ D J A (fun rv w9 => rv = some (.long (zl res)) ∧ cOB J a_p0 A_p0 w9)) args s 0 0 A) cL_now 5 wsL_now RL D J A (some .long) (yL_now.name, []) 0 0 ws_p0' [(1, .long (zl v12'))] 130 []) : ∀ (N : Nat) (v12 : Int) (v13 : Int) (ws_p0 : va_W), cOB J a_p0 A_p0 ws_p0 → sh_L_now_L28 F A_p0 k N v12 v13 = some res → Z p l e ({ frames := 4, cells := 0, slots := 0, locals := 87 } : Room) s m args below meth c (MQ below (zQ D J A (fun rv w9 => rv = some (.long (zl res)) ∧ cOB J a_p0 A_p0 w9)) args s 0 0 A) cL_now 5 wsL_now RL D J A (some .long) (yL_now.name, []) 0 0 ws_p0 [(0, .ref a_p0), (1, .long (zl v12)), (3, .int (zi v13))] 28 [] := by
  intro N
  induction N with
  | zero =>
    intro v12 v13 ws_p0 hO_p0 hsh
    exact absurd hsh (by simp [sh_L_now_L28])
  | succ N ih =>
    intro v12 v13 ws_p0 hO_p0 hsh
    rw [sh_L_now_L28] at hsh
    refine z_iload_n (pc' := 29) 2 dL_now_28 rfl rfl rfl ?_
    refine z_aload_n (pc' := 30) 0 dL_now_29 rfl rfl rfl ?_
    obtain ⟨q15, h16, hsh⟩ := zbind hsh
    obtain ⟨fs14, h0_14⟩ := hO_p0.h0
    refine z_callV (pc' := 33) (C := RX8) (As := []) (rest := [.int (zi v13)]) (wr := []) 0 (oc_pointCount_d l D J hO_p0 h16) dL_now_30 gL_now_X8_pointCount rfl rfl rfl (by decide +kernel) ⟨Nat.le_of_ble_eq_true rfl, Nat.le_of_ble_eq_true rfl⟩ ⟨Nat.le_of_ble_eq_true rfl, Nat.le_of_ble_eq_true rfl⟩ (z_spl_nil _) h0_14 rfl rfl rfl (Nat.le_of_ble_eq_true rfl) rfl (fun rv w14 hq => ?_)
    obtain ⟨rfl, hr14, hO14⟩ := hq
    refine z_ws w14 rfl ?_
    have g17 := zkr_p hsh
    replace hsh := zkr_k hsh
    refine z_icmp_ge (pc' := 36) (tgt := 130) dL_now_33 (by decide) g17 hr14 rfl (fun q => ?_) (fun q => ?_)
    · replace hsh := zif_f q hsh
      refine z_lv [(1, .long (zl v12))] [1] rfl ?_
      exact hk _ _ _ hO14 hsh
    · replace hsh := zif_t q hsh
      refine z_ldc2 (pc' := 39) (1009 : Int) dL_now_36 mL_now_k200 (by decide) rfl ?_
      refine z_lload_n (pc' := 40) 1 dL_now_39 rfl rfl rfl ?_
      refine z_lmul (pc' := 41) dL_now_40 rfl ?_
      refine z_ldc2 (pc' := 44) (1000000007 : Int) dL_now_41 mL_now_k213 (by decide) rfl ?_
      have g18 := zkl_p hsh
      replace hsh := zkl_k hsh
      refine z_lrem (pc' := 45) dL_now_44 g18 (by decide) (by decide) rfl ?_
      refine z_aload_n (pc' := 46) 0 dL_now_45 rfl rfl rfl ?_
      refine z_iload_n (pc' := 47) 2 dL_now_46 rfl rfl rfl ?_
      obtain ⟨q20, h21, hsh⟩ := zbind hsh
      refine z_callSw (pc' := 50) (As := [.ref a_p0, .int (zi v13)]) (rest := [.long (zl (zmod ((1009 : Int) * v12) (1000000007 : Int)))]) (wr := []) 2 (oc_drawn_n l D J hO14 v13 h21) dL_now_47 gL_now_L_drawn rfl rfl rfl (by decide +kernel) ⟨Nat.le_of_ble_eq_true rfl, Nat.le_of_ble_eq_true rfl⟩ ⟨Nat.le_of_ble_eq_true rfl, Nat.le_of_ble_eq_true rfl⟩ (z_spl_nil _) rfl rfl (Nat.le_of_ble_eq_true rfl) rfl (fun E w9 hq => hq.elim) (fun rv w19 hq => ?_)
      obtain ⟨rfl, hr19, hO19⟩ := hq
      refine z_ws w19 rfl ?_
      refine z_i2l (pc' := 51) dL_now_50 hr19 rfl ?_
      refine z_ladd (pc' := 52) dL_now_51 rfl ?_
      refine z_ldc2 (pc' := 55) (31 : Int) dL_now_52 mL_now_k208 (by decide) rfl ?_
      refine z_aload_n (pc' := 56) 0 dL_now_55 rfl rfl rfl ?_
      refine z_iload_n (pc' := 57) 2 dL_now_56 rfl rfl rfl ?_
      obtain ⟨q23, h24, hsh⟩ := zbind hsh
      refine z_callSw (pc' := 60) (As := [.ref a_p0, .int (zi v13)]) (rest := [.long (zl (31 : Int)), .long (zl ((zmod ((1009 : Int) * v12) (1000000007 : Int)) + q20))]) (wr := []) 2 (oc_remaining_n l D J hO19 v13 h24) dL_now_57 gL_now_L_remaining rfl rfl rfl (by decide +kernel) ⟨Nat.le_of_ble_eq_true rfl, Nat.le_of_ble_eq_true rfl⟩ ⟨Nat.le_of_ble_eq_true rfl, Nat.le_of_ble_eq_true rfl⟩ (z_spl_nil _) rfl rfl (Nat.le_of_ble_eq_true rfl) rfl (fun E w9 hq => hq.elim) (fun rv w22 hq => ?_)
      obtain ⟨rfl, hr22, hO22⟩ := hq
      refine z_ws w22 rfl ?_
      refine z_i2l (pc' := 61) dL_now_60 hr22 rfl ?_
      refine z_lmul (pc' := 62) dL_now_61 rfl ?_
      refine z_ladd (pc' := 63) dL_now_62 rfl ?_
      refine z_ldc2 (pc' := 66) (1013 : Int) dL_now_63 mL_now_k215 (by decide) rfl ?_
      refine z_aload_n (pc' := 67) 0 dL_now_66 rfl rfl rfl ?_
      refine z_iload_n (pc' := 68) 2 dL_now_67 rfl rfl rfl ?_
      obtain ⟨q26, h27, hsh⟩ := zbind hsh
      refine z_callSw (pc' := 71) (As := [.ref a_p0, .int (zi v13)]) (rest := [.long (zl (1013 : Int)), .long (zl (((zmod ((1009 : Int) * v12) (1000000007 : Int)) + q20) + ((31 : Int) * q23)))]) (wr := []) 2 (oc_slices_n l D J hO22 v13 h27) dL_now_68 gL_now_L_slices rfl rfl rfl (by decide +kernel) ⟨Nat.le_of_ble_eq_true rfl, Nat.le_of_ble_eq_true rfl⟩ ⟨Nat.le_of_ble_eq_true rfl, Nat.le_of_ble_eq_true rfl⟩ (z_spl_nil _) rfl rfl (Nat.le_of_ble_eq_true rfl) rfl (fun E w9 hq => hq.elim) (fun rv w25 hq => ?_)
      obtain ⟨rfl, hr25, hO25⟩ := hq
      refine z_ws w25 rfl ?_
      refine z_i2l (pc' := 72) dL_now_71 hr25 rfl ?_
      refine z_lmul (pc' := 73) dL_now_72 rfl ?_
      refine z_ladd (pc' := 74) dL_now_73 rfl ?_
      refine z_ldc2 (pc' := 77) (10007 : Int) dL_now_74 mL_now_k217 (by decide) rfl ?_
      refine z_aload_n (pc' := 78) 0 dL_now_77 rfl rfl rfl ?_
      refine z_iload_n (pc' := 79) 2 dL_now_78 rfl rfl rfl ?_
      obtain ⟨q29, h30, hsh⟩ := zbind hsh
      refine z_callSw (pc' := 82) (As := [.ref a_p0, .int (zi v13)]) (rest := [.long (zl (10007 : Int)), .long (zl ((((zmod ((1009 : Int) * v12) (1000000007 : Int)) + q20) + ((31 : Int) * q23)) + ((1013 : Int) * q26)))]) (wr := []) 2 (oc_hung_n l D J hO25 v13 h30) dL_now_79 gL_now_L_hung rfl rfl rfl (by decide +kernel) ⟨Nat.le_of_ble_eq_true rfl, Nat.le_of_ble_eq_true rfl⟩ ⟨Nat.le_of_ble_eq_true rfl, Nat.le_of_ble_eq_true rfl⟩ (z_spl_nil _) rfl rfl (Nat.le_of_ble_eq_true rfl) rfl (fun E w9 hq => hq.elim) (fun rv w28 hq => ?_)
      obtain ⟨rfl, hr28, hO28⟩ := hq
      refine z_ws w28 rfl ?_
      refine z_i2l (pc' := 83) dL_now_82 hr28 rfl ?_
      refine z_lmul (pc' := 84) dL_now_83 rfl ?_
      refine z_ladd (pc' := 85) dL_now_84 rfl ?_
      refine z_lstore_n (pc' := 86) [(1, .long (zl (((((zmod ((1009 : Int) * v12) (1000000007 : Int)) + q20) + ((31 : Int) * q23)) + ((1013 : Int) * q26)) + ((10007 : Int) * q29)))), (0, .ref a_p0), (3, .int (zi v13))] dL_now_85 rfl (by decide) rfl rfl ?_
      refine z_iconst (pc' := 87) dL_now_86 rfl ?_
      refine z_istore (pc' := 89) [(4, .int (zi (0 : Int))), (1, .long (zl (((((zmod ((1009 : Int) * v12) (1000000007 : Int)) + q20) + ((31 : Int) * q23)) + ((1013 : Int) * q26)) + ((10007 : Int) * q29)))), (0, .ref a_p0), (3, .int (zi v13))] dL_now_87 (by decide) rfl rfl ?_
      refine z_lv [(0, .ref a_p0), (1, .long (zl (((((zmod ((1009 : Int) * v12) (1000000007 : Int)) + q20) + ((31 : Int) * q23)) + ((1013 : Int) * q26)) + ((10007 : Int) * q29)))), (3, .int (zi v13)), (4, .int (zi (0 : Int)))] [2, 1, 3, 0] rfl ?_
      refine zl_L_now_L89 (F := F) (hk := fun v43 v44 ws45_p0 hO45_p0 hsh => ?_) _ _ _ _ hO28 hsh
      refine z_iinc (pc' := 127) [(3, .int (zi (v13 + (1 : Int)))), (0, .ref a_p0), (1, .long (zl v43))] 2 dL_now_124 rfl (by decide) rfl rfl ?_
      refine z_goto (tgt := 28) dL_now_127 (by decide) ?_
      refine z_lv [(0, .ref a_p0), (1, .long (zl v43)), (3, .int (zi (v13 + (1 : Int))))] [1, 2, 0] rfl ?_
      exact ih _ _ _ hO45_p0 hsh
set_option maxRecDepth 100000 in
set_option maxHeartbeats 4000000 in
theorem zc_L_now (l : Launch) (D : va_G) (J : Nat → ClassId) (F : Nat) {a_p0 : Nat} {A_p0 : zO} {ws_p0 : va_W} (hO_p0 : cOB J a_p0 A_p0 ws_p0) (res : Int) (hsh : sh_L_now F A_p0 = some res) : ZM l D J yL_now wsL_now ({ frames := 4, cells := 0, slots := 0, locals := 87 } : Room) 0 0 [.ref a_p0] ws_p0 (fun rv w9 => rv = some (.long (zl res)) ∧ cOB J a_p0 A_p0 w9) := by
  refine z_ofZ (cc := cL_now) (maxL := 5) (ret := (some .long)) 0 0 (by decide) rfl (Nat.le_of_ble_eq_true rfl) [(0, .ref a_p0)] rfl ?_
  intro p e s m args below meth c A
  unfold sh_L_now at hsh
  refine z_ldc2 (pc' := 3) (1009 : Int) dL_now_0 mL_now_k200 (by decide) rfl ?_
  refine z_aload_n (pc' := 4) 0 dL_now_3 rfl rfl rfl ?_
  obtain ⟨q2, h3, hsh⟩ := zbind hsh
  obtain ⟨fs1, h0_1⟩ := hO_p0.h0
  refine z_callV (pc' := 7) (C := RX8) (As := []) (rest := [.long (zl (1009 : Int))]) (wr := []) 0 (oc_totalBuckets_d l D J hO_p0 h3) dL_now_4 gL_now_X8_totalBuckets rfl rfl rfl (by decide +kernel) ⟨Nat.le_of_ble_eq_true rfl, Nat.le_of_ble_eq_true rfl⟩ ⟨Nat.le_of_ble_eq_true rfl, Nat.le_of_ble_eq_true rfl⟩ (z_spl_nil _) h0_1 rfl rfl rfl (Nat.le_of_ble_eq_true rfl) rfl (fun rv w1 hq => ?_)
  obtain ⟨rfl, hr1, hO1⟩ := hq
  refine z_ws w1 rfl ?_
  refine z_i2l (pc' := 8) dL_now_7 hr1 rfl ?_
  refine z_lmul (pc' := 9) dL_now_8 rfl ?_
  refine z_aload_n (pc' := 10) 0 dL_now_9 rfl rfl rfl ?_
  obtain ⟨q5, h6, hsh⟩ := zbind hsh
  obtain ⟨fs4, h0_4⟩ := hO1.h0
  refine z_callV (pc' := 13) (C := RX8) (As := []) (rest := [.long (zl ((1009 : Int) * q2))]) (wr := []) 0 (oc_totalGrade_d l D J hO1 h6) dL_now_10 gL_now_X8_totalGrade rfl rfl rfl (by decide +kernel) ⟨Nat.le_of_ble_eq_true rfl, Nat.le_of_ble_eq_true rfl⟩ ⟨Nat.le_of_ble_eq_true rfl, Nat.le_of_ble_eq_true rfl⟩ (z_spl_nil _) h0_4 rfl rfl rfl (Nat.le_of_ble_eq_true rfl) rfl (fun rv w4 hq => ?_)
  obtain ⟨rfl, hr4, hO4⟩ := hq
  refine z_ws w4 rfl ?_
  refine z_i2l (pc' := 14) dL_now_13 hr4 rfl ?_
  refine z_ladd (pc' := 15) dL_now_14 rfl ?_
  refine z_ldc2 (pc' := 18) (31 : Int) dL_now_15 mL_now_k208 (by decide) rfl ?_
  refine z_aload_n (pc' := 19) 0 dL_now_18 rfl rfl rfl ?_
  obtain ⟨q8, h9, hsh⟩ := zbind hsh
  obtain ⟨fs7, h0_7⟩ := hO4.h0
  refine z_callV (pc' := 22) (C := RX8) (As := []) (rest := [.long (zl (31 : Int)), .long (zl (((1009 : Int) * q2) + q5))]) (wr := []) 0 (oc_bound_d l D J hO4 h9) dL_now_19 gL_now_X8_bound rfl rfl rfl (by decide +kernel) ⟨Nat.le_of_ble_eq_true rfl, Nat.le_of_ble_eq_true rfl⟩ ⟨Nat.le_of_ble_eq_true rfl, Nat.le_of_ble_eq_true rfl⟩ (z_spl_nil _) h0_7 rfl rfl rfl (Nat.le_of_ble_eq_true rfl) rfl (fun rv w7 hq => ?_)
  obtain ⟨rfl, hr7, hO7⟩ := hq
  refine z_ws w7 rfl ?_
  refine z_i2l (pc' := 23) dL_now_22 hr7 rfl ?_
  refine z_lmul (pc' := 24) dL_now_23 rfl ?_
  refine z_ladd (pc' := 25) dL_now_24 rfl ?_
  refine z_lstore_n (pc' := 26) [(1, .long (zl ((((1009 : Int) * q2) + q5) + ((31 : Int) * q8)))), (0, .ref a_p0)] dL_now_25 rfl (by decide) rfl rfl ?_
  refine z_iconst (pc' := 27) dL_now_26 rfl ?_
  refine z_istore_n (pc' := 28) [(3, .int (zi (0 : Int))), (1, .long (zl ((((1009 : Int) * q2) + q5) + ((31 : Int) * q8)))), (0, .ref a_p0)] dL_now_27 rfl (by decide) rfl rfl ?_
  refine z_lv [(0, .ref a_p0), (1, .long (zl ((((1009 : Int) * q2) + q5) + ((31 : Int) * q8)))), (3, .int (zi (0 : Int)))] [2, 1, 0] rfl ?_
  refine zl_L_now_L28 (F := F) (hk := fun v46 v47 ws48_p0 hO48_p0 hsh => ?_) _ _ _ _ hO7 hsh
  refine z_lload_n (pc' := 131) 0 dL_now_130 rfl rfl rfl ?_
  cases hsh
  exact z_lret rfl dL_now_131 ⟨rfl, hO48_p0⟩
