def sh_X9_readText_L2 (F : Nat) (k : Int → (Nat → Int) → Option (Int × Int × Int × Int × (Nat → Int))) : Nat → Int → (Nat → Int) → Option (Int × Int × Int × Int × (Nat → Int))
  | 0, _, _ => none
  | N + 1, v4, v5 => zkr v4 (if v4 < (243 : Int) then zkx v4 243 (sh_X9_readText_L2 F k N (v4 + (1 : Int)) (va_up v5 (v4).toNat (0 : Int))) else k v4 v5)
def sh_X9_readText_L124 (F : Nat) (c_t_scriptSize : Int) (f_t_script : Nat → Int) (q13 : Int × Int) (q16 : Int × Int) (k : Int → Int → (Nat → Int) → Option (Int × Int × Int × Int × (Nat → Int))) : Nat → Int → Int → (Nat → Int) → Option (Int × Int × Int × Int × (Nat → Int))
  | 0, _, _, _ => none
  | N + 1, v26, v27, v28 => zkr v26 (zkr (q13.1 * q16.1) (if v26 < (q13.1 * q16.1) then (sh_X9_readColumn F c_t_scriptSize v27 f_t_script v28 v26).bind (fun (q31 : Int × Int × (Nat → Int)) => zkr q31.1 (if q31.1 = (0 : Int) then some (q31.2.1, q31.2.1, q13.1, q16.1, q31.2.2) else sh_X9_readText_L124 F c_t_scriptSize f_t_script q13 q16 k N (v26 + (1 : Int)) q31.2.1 q31.2.2)) else k v26 v27 v28))
def sh_X9_readText_L124_2 (F : Nat) (c_t_scriptSize : Int) (f_t_script : Nat → Int) (q13 : Int × Int) (q16 : Int × Int) (k : Int → Int → (Nat → Int) → Option (Int × Int × Int × Int × (Nat → Int))) : Nat → Int → Int → (Nat → Int) → Option (Int × Int × Int × Int × (Nat → Int))
  | 0, _, _, _ => none
  | N + 1, v44, v45, v46 => zkr v44 (zkr (q13.1 * q16.1) (if v44 < (q13.1 * q16.1) then (sh_X9_readColumn F c_t_scriptSize v45 f_t_script v46 v44).bind (fun (q49 : Int × Int × (Nat → Int)) => zkr q49.1 (if q49.1 = (0 : Int) then some (q49.2.1, q49.2.1, q13.1, q16.1, q49.2.2) else sh_X9_readText_L124_2 F c_t_scriptSize f_t_script q13 q16 k N (v44 + (1 : Int)) q49.2.1 q49.2.2)) else k v44 v45 v46))
def sh_X9_readText_L124_3 (F : Nat) (c_t_scriptSize : Int) (f_t_script : Nat → Int) (q13 : Int × Int) (k : Int → Int → (Nat → Int) → Option (Int × Int × Int × Int × (Nat → Int))) : Nat → Int → Int → (Nat → Int) → Option (Int × Int × Int × Int × (Nat → Int))
  | 0, _, _, _ => none
  | N + 1, v64, v65, v66 => zkr v64 (zkr (q13.1 * (-9 : Int)) (if v64 < (q13.1 * (-9 : Int)) then (sh_X9_readColumn F c_t_scriptSize v65 f_t_script v66 v64).bind (fun (q69 : Int × Int × (Nat → Int)) => zkr q69.1 (if q69.1 = (0 : Int) then some (q69.2.1, q69.2.1, q13.1, (-9 : Int), q69.2.2) else sh_X9_readText_L124_3 F c_t_scriptSize f_t_script q13 k N (v64 + (1 : Int)) q69.2.1 q69.2.2)) else k v64 v65 v66))
def sh_X9_readText_L124_4 (F : Nat) (c_t_scriptSize : Int) (f_t_script : Nat → Int) (q13 : Int × Int) (k : Int → Int → (Nat → Int) → Option (Int × Int × Int × Int × (Nat → Int))) : Nat → Int → Int → (Nat → Int) → Option (Int × Int × Int × Int × (Nat → Int))
  | 0, _, _, _ => none
  | N + 1, v82, v83, v84 => zkr v82 (zkr (q13.1 * (-9 : Int)) (if v82 < (q13.1 * (-9 : Int)) then (sh_X9_readColumn F c_t_scriptSize v83 f_t_script v84 v82).bind (fun (q87 : Int × Int × (Nat → Int)) => zkr q87.1 (if q87.1 = (0 : Int) then some (q87.2.1, q87.2.1, q13.1, (-9 : Int), q87.2.2) else sh_X9_readText_L124_4 F c_t_scriptSize f_t_script q13 k N (v82 + (1 : Int)) q87.2.1 q87.2.2)) else k v82 v83 v84))
def sh_X9_readText (F : Nat) (c_t_scriptSize : Int) (c_t_readHigh : Int) (c_t_readWide : Int) (f_t_script : Nat → Int) (f_t_read : Nat → Int) : Option (Int × Int × Int × Int × (Nat → Int)) := sh_X9_readText_L2 F (fun (v8 : Int) (v9 : (Nat → Int)) => (sh_X9_readLetter F c_t_scriptSize (0 : Int) f_t_script (68 : Int)).bind (fun (q10 : Int × Int) => zkr q10.1 (if q10.1 = (0 : Int) then some (q10.2, q10.2, c_t_readHigh, c_t_readWide, v9) else (sh_X9_digit F c_t_scriptSize q10.2 f_t_script (1 : Int) (4 : Int)).bind (fun (q13 : Int × Int) => zkr q13.1 (if q13.1 = (-9 : Int) then if (-9 : Int) = (-9 : Int) then zkr ((va_up v9 ((240 : Int)).toNat (-9 : Int)) ((240 : Int)).toNat) (if ((va_up v9 ((240 : Int)).toNat (-9 : Int)) ((240 : Int)).toNat) = (-9 : Int) then some (q13.2, q13.2, q13.1, (-9 : Int), (va_up v9 ((240 : Int)).toNat (-9 : Int))) else sh_X9_readText_L124_4 F c_t_scriptSize f_t_script q13 (fun (v90 : Int) (v91 : Int) (v92 : (Nat → Int)) => zkr v91 (zkr c_t_scriptSize (if v91 = c_t_scriptSize then some ((-9 : Int), v91, q13.1, (-9 : Int), v92) else some (v91, v91, q13.1, (-9 : Int), v92)))) F (0 : Int) q13.2 (va_up v9 ((240 : Int)).toNat (-9 : Int))) else (sh_X9_digit F c_t_scriptSize q13.2 f_t_script (1 : Int) (9 : Int)).bind (fun (q57 : Int × Int) => zkr ((va_up v9 ((240 : Int)).toNat q57.1) ((240 : Int)).toNat) (if ((va_up v9 ((240 : Int)).toNat q57.1) ((240 : Int)).toNat) = (-9 : Int) then some (q57.2, q57.2, q13.1, (-9 : Int), (va_up v9 ((240 : Int)).toNat q57.1)) else sh_X9_readText_L124_3 F c_t_scriptSize f_t_script q13 (fun (v72 : Int) (v73 : Int) (v74 : (Nat → Int)) => zkr v73 (zkr c_t_scriptSize (if v73 = c_t_scriptSize then some ((-9 : Int), v73, q13.1, (-9 : Int), v74) else some (v73, v73, q13.1, (-9 : Int), v74)))) F (0 : Int) q57.2 (va_up v9 ((240 : Int)).toNat q57.1))) else (sh_X9_digit F c_t_scriptSize q13.2 f_t_script (1 : Int) (4 : Int)).bind (fun (q16 : Int × Int) => zkr q16.1 (if q16.1 = (-9 : Int) then zkr ((va_up v9 ((240 : Int)).toNat (-9 : Int)) ((240 : Int)).toNat) (if ((va_up v9 ((240 : Int)).toNat (-9 : Int)) ((240 : Int)).toNat) = (-9 : Int) then some (q16.2, q16.2, q13.1, q16.1, (va_up v9 ((240 : Int)).toNat (-9 : Int))) else sh_X9_readText_L124_2 F c_t_scriptSize f_t_script q13 q16 (fun (v52 : Int) (v53 : Int) (v54 : (Nat → Int)) => zkr v53 (zkr c_t_scriptSize (if v53 = c_t_scriptSize then some ((-9 : Int), v53, q13.1, q16.1, v54) else some (v53, v53, q13.1, q16.1, v54)))) F (0 : Int) q16.2 (va_up v9 ((240 : Int)).toNat (-9 : Int))) else (sh_X9_digit F c_t_scriptSize q16.2 f_t_script (1 : Int) (9 : Int)).bind (fun (q19 : Int × Int) => zkr ((va_up v9 ((240 : Int)).toNat q19.1) ((240 : Int)).toNat) (if ((va_up v9 ((240 : Int)).toNat q19.1) ((240 : Int)).toNat) = (-9 : Int) then some (q19.2, q19.2, q13.1, q16.1, (va_up v9 ((240 : Int)).toNat q19.1)) else sh_X9_readText_L124 F c_t_scriptSize f_t_script q13 q16 (fun (v34 : Int) (v35 : Int) (v36 : (Nat → Int)) => zkr v35 (zkr c_t_scriptSize (if v35 = c_t_scriptSize then some ((-9 : Int), v35, q13.1, q16.1, v36) else some (v35, v35, q13.1, q16.1, v36)))) F (0 : Int) q19.2 (va_up v9 ((240 : Int)).toNat q19.1)))))))))) F (0 : Int) f_t_read
theorem mX9_readText_f36 : Cond.fieldLink RX9 36 (TX9 13).1 (TX9 13).2.1 (TX9 13).2.2.1 ∈ wsX9_readText := List.mem_of_getElem? (i := 1) rfl
theorem iX9_readText_X9 : ∀ w ∈ wsX90, w ∈ wsX9_readText := fun _ h => (List.mem_cons_of_mem _ (List.mem_append_right _ h))
theorem mX9_readText_f81 : Cond.fieldLink RX9 81 (TX9 12).1 (TX9 12).2.1 (TX9 12).2.2.1 ∈ wsX9_readText := List.mem_of_getElem? (i := 2) rfl
theorem mX9_readText_f94 : Cond.fieldLink RX9 94 (TX9 14).1 (TX9 14).2.1 (TX9 14).2.2.1 ∈ wsX9_readText := List.mem_of_getElem? (i := 3) rfl
theorem mX9_readText_f97 : Cond.fieldLink RX9 97 (TX9 15).1 (TX9 15).2.1 (TX9 15).2.2.1 ∈ wsX9_readText := List.mem_of_getElem? (i := 4) rfl
theorem mX9_readText_f74 : Cond.fieldLink RX9 74 (TX9 11).1 (TX9 11).2.1 (TX9 11).2.2.1 ∈ wsX9_readText := List.mem_of_getElem? (i := 5) rfl
set_option maxRecDepth 100000 in
set_option maxHeartbeats 4000000 in
theorem zl_X9_readText_L2 {p : Program} {l : Launch} {e : Env} {s : State} {m : MethodId} {args : Array Value} {below : List Frame} {meth : Method} {c : Code} {A : Nat → Prop} {D : va_G} {J : Nat → ClassId} {F : Nat} {a_t : Nat} {c_t_refusal : Int} {c_t_high : Int} {c_t_wide : Int} {a_t_now : Nat} {a_t_trial : Nat} {a_t_diary : Nat} {c_t_acts : Int} {c_t_next : Int} {a_t_kept : Nat} {a_t_isKept : Nat} {a_t_script : Nat} {c_t_scriptSize : Int} {c_t_spot : Int} {a_t_read : Nat} {c_t_readHigh : Int} {c_t_readWide : Int} {a_t_wanted : Nat} {a_t_level : Nat} {a_t_chosen : Nat} {a_t_best : Nat} {f_t_script : Nat → Int} {res : Int × Int × Int × Int × (Nat → Int)} {k : Int → (Nat → Int) → Option (Int × Int × Int × Int × (Nat → Int))} (hk : ∀ (v4' : Int) (v5' : (Nat → Int)), k v4' v5' = some res → Z p l e ({ frames := 4, cells := 0, slots := 0, locals := 93 } : Room) s m args below meth c (MQ below (zQ D J A (fun rv w9 => rv = some (.int (zi res.1)) ∧ w9 = [(a_t, .inr (8, [.int (zi c_t_refusal), .int (zi c_t_high), .int (zi c_t_wide), .ref a_t_now, .ref a_t_trial, .ref a_t_diary, .int (zi c_t_acts), .int (zi c_t_next), .ref a_t_kept, .ref a_t_isKept, .ref a_t_script, .int (zi c_t_scriptSize), .int (zi res.2.1), .ref a_t_read, .int (zi res.2.2.1), .int (zi res.2.2.2.1), .ref a_t_wanted, .ref a_t_level, .ref a_t_chosen, .ref a_t_best])), (a_t_script, zI J 120 f_t_script), (a_t_read, zI J 243 res.2.2.2.2)])) args s 0 0 A) cX9_readText 2 wsX9_readText RX9 D J A (some .int) (yX9_readText.name, []) 0 0 [(a_t, .inr (8, [.int (zi c_t_refusal), .int (zi c_t_high), .int (zi c_t_wide), .ref a_t_now, .ref a_t_trial, .ref a_t_diary, .int (zi c_t_acts), .int (zi c_t_next), .ref a_t_kept, .ref a_t_isKept, .ref a_t_script, .int (zi c_t_scriptSize), .int (zi c_t_spot), .ref a_t_read, .int (zi c_t_readHigh), .int (zi c_t_readWide), .ref a_t_wanted, .ref a_t_level, .ref a_t_chosen, .ref a_t_best])), (a_t_script, zI J 120 f_t_script), (a_t_read, zI J 243 v5')] [(0, .ref a_t)] 22 []) : ∀ (N : Nat) (v4 : Int) (v5 : (Nat → Int)), sh_X9_readText_L2 F k N v4 v5 = some res → Z p l e ({ frames := 4, cells := 0, slots := 0, locals := 93 } : Room) s m args below meth c (MQ below (zQ D J A (fun rv w9 => rv = some (.int (zi res.1)) ∧ w9 = [(a_t, .inr (8, [.int (zi c_t_refusal), .int (zi c_t_high), .int (zi c_t_wide), .ref a_t_now, .ref a_t_trial, .ref a_t_diary, .int (zi c_t_acts), .int (zi c_t_next), .ref a_t_kept, .ref a_t_isKept, .ref a_t_script, .int (zi c_t_scriptSize), .int (zi res.2.1), .ref a_t_read, .int (zi res.2.2.1), .int (zi res.2.2.2.1), .ref a_t_wanted, .ref a_t_level, .ref a_t_chosen, .ref a_t_best])), (a_t_script, zI J 120 f_t_script), (a_t_read, zI J 243 res.2.2.2.2)])) args s 0 0 A) cX9_readText 2 wsX9_readText RX9 D J A (some .int) (yX9_readText.name, []) 0 0 [(a_t, .inr (8, [.int (zi c_t_refusal), .int (zi c_t_high), .int (zi c_t_wide), .ref a_t_now, .ref a_t_trial, .ref a_t_diary, .int (zi c_t_acts), .int (zi c_t_next), .ref a_t_kept, .ref a_t_isKept, .ref a_t_script, .int (zi c_t_scriptSize), .int (zi c_t_spot), .ref a_t_read, .int (zi c_t_readHigh), .int (zi c_t_readWide), .ref a_t_wanted, .ref a_t_level, .ref a_t_chosen, .ref a_t_best])), (a_t_script, zI J 120 f_t_script), (a_t_read, zI J 243 v5)] [(0, .ref a_t), (1, .int (zi v4))] 2 [] := by
  intro N
  induction N with
  | zero =>
    intro v4 v5 hsh
    exact absurd hsh (by simp [sh_X9_readText_L2])
  | succ N ih =>
    intro v4 v5 hsh
    rw [sh_X9_readText_L2] at hsh
    refine z_iload_n (pc' := 3) 1 dX9_readText_2 rfl rfl rfl ?_
    refine z_sipush (pc' := 6) dX9_readText_3 (by decide) rfl ?_
    have g6 := zkr_p hsh
    replace hsh := zkr_k hsh
    refine z_icmp_ge (pc' := 9) (tgt := 22) dX9_readText_6 (by decide) g6 (by decide) rfl (fun q => ?_) (fun q => ?_)
    · replace hsh := zif_f q hsh
      refine z_perm [(a_t, .inr (8, [.int (zi c_t_refusal), .int (zi c_t_high), .int (zi c_t_wide), .ref a_t_now, .ref a_t_trial, .ref a_t_diary, .int (zi c_t_acts), .int (zi c_t_next), .ref a_t_kept, .ref a_t_isKept, .ref a_t_script, .int (zi c_t_scriptSize), .int (zi c_t_spot), .ref a_t_read, .int (zi c_t_readHigh), .int (zi c_t_readWide), .ref a_t_wanted, .ref a_t_level, .ref a_t_chosen, .ref a_t_best])), (a_t_script, zI J 120 f_t_script), (a_t_read, zI J 243 v5)] [(0, .ref a_t)] [0, 1, 2] [0] rfl rfl rfl ?_
      exact hk _ _ hsh
    · replace hsh := zif_t q hsh
      refine z_aload_n (pc' := 10) 0 dX9_readText_9 rfl rfl rfl ?_
      refine z_getfield (pc' := 13) (C := RX9) (T := TX9) (N := 20) 0 13 dX9_readText_10 iX9_readText_X9 rfl rfl (by decide) mX9_readText_f36 rfl rfl ?_
      refine z_iload_n (pc' := 14) 1 dX9_readText_13 rfl rfl rfl ?_
      refine z_iconst (pc' := 15) dX9_readText_14 rfl ?_
      have g7 := zkx_p hsh
      replace hsh := zkx_k hsh
      refine z_iastore (pc' := 16) 2 [(a_t, .inr (8, [.int (zi c_t_refusal), .int (zi c_t_high), .int (zi c_t_wide), .ref a_t_now, .ref a_t_trial, .ref a_t_diary, .int (zi c_t_acts), .int (zi c_t_next), .ref a_t_kept, .ref a_t_isKept, .ref a_t_script, .int (zi c_t_scriptSize), .int (zi c_t_spot), .ref a_t_read, .int (zi c_t_readHigh), .int (zi c_t_readWide), .ref a_t_wanted, .ref a_t_level, .ref a_t_chosen, .ref a_t_best])), (a_t_script, zI J 120 f_t_script), (a_t_read, zI J 243 (va_up v5 (v4).toNat (0 : Int)))] dX9_readText_15 rfl (by decide) g7 rfl rfl ?_
      refine z_iinc (pc' := 19) [(1, .int (zi (v4 + (1 : Int)))), (0, .ref a_t)] 1 dX9_readText_16 rfl (by decide) rfl rfl ?_
      refine z_goto (tgt := 2) dX9_readText_19 (by decide) ?_
      refine z_perm [(a_t, .inr (8, [.int (zi c_t_refusal), .int (zi c_t_high), .int (zi c_t_wide), .ref a_t_now, .ref a_t_trial, .ref a_t_diary, .int (zi c_t_acts), .int (zi c_t_next), .ref a_t_kept, .ref a_t_isKept, .ref a_t_script, .int (zi c_t_scriptSize), .int (zi c_t_spot), .ref a_t_read, .int (zi c_t_readHigh), .int (zi c_t_readWide), .ref a_t_wanted, .ref a_t_level, .ref a_t_chosen, .ref a_t_best])), (a_t_script, zI J 120 f_t_script), (a_t_read, zI J 243 (va_up v5 (v4).toNat (0 : Int)))] [(0, .ref a_t), (1, .int (zi (v4 + (1 : Int))))] [0, 1, 2] [1, 0] rfl rfl rfl ?_
      exact ih _ _ hsh
set_option maxRecDepth 100000 in
set_option maxHeartbeats 4000000 in
theorem zl_X9_readText_L124 {p : Program} {l : Launch} {e : Env} {s : State} {m : MethodId} {args : Array Value} {below : List Frame} {meth : Method} {c : Code} {A : Nat → Prop} {D : va_G} {J : Nat → ClassId} {F : Nat} {c_t_scriptSize : Int} {f_t_script : Nat → Int} {q13 : Int × Int} {q16 : Int × Int} {a_t : Nat} {c_t_refusal : Int} {c_t_high : Int} {c_t_wide : Int} {a_t_now : Nat} {a_t_trial : Nat} {a_t_diary : Nat} {c_t_acts : Int} {c_t_next : Int} {a_t_kept : Nat} {a_t_isKept : Nat} {a_t_script : Nat} {a_t_read : Nat} {a_t_wanted : Nat} {a_t_level : Nat} {a_t_chosen : Nat} {a_t_best : Nat} {res : Int × Int × Int × Int × (Nat → Int)} {k : Int → Int → (Nat → Int) → Option (Int × Int × Int × Int × (Nat → Int))} (hk : ∀ (v26' : Int) (v27' : Int) (v28' : (Nat → Int)), k v26' v27' v28' = some res → Z p l e ({ frames := 4, cells := 0, slots := 0, locals := 93 } : Room) s m args below meth c (MQ below (zQ D J A (fun rv w9 => rv = some (.int (zi res.1)) ∧ w9 = [(a_t, .inr (8, [.int (zi c_t_refusal), .int (zi c_t_high), .int (zi c_t_wide), .ref a_t_now, .ref a_t_trial, .ref a_t_diary, .int (zi c_t_acts), .int (zi c_t_next), .ref a_t_kept, .ref a_t_isKept, .ref a_t_script, .int (zi c_t_scriptSize), .int (zi res.2.1), .ref a_t_read, .int (zi res.2.2.1), .int (zi res.2.2.2.1), .ref a_t_wanted, .ref a_t_level, .ref a_t_chosen, .ref a_t_best])), (a_t_script, zI J 120 f_t_script), (a_t_read, zI J 243 res.2.2.2.2)])) args s 0 0 A) cX9_readText 2 wsX9_readText RX9 D J A (some .int) (yX9_readText.name, []) 0 0 [(a_t, .inr (8, [.int (zi c_t_refusal), .int (zi c_t_high), .int (zi c_t_wide), .ref a_t_now, .ref a_t_trial, .ref a_t_diary, .int (zi c_t_acts), .int (zi c_t_next), .ref a_t_kept, .ref a_t_isKept, .ref a_t_script, .int (zi c_t_scriptSize), .int (zi v27'), .ref a_t_read, .int (zi q13.1), .int (zi q16.1), .ref a_t_wanted, .ref a_t_level, .ref a_t_chosen, .ref a_t_best])), (a_t_script, zI J 120 f_t_script), (a_t_read, zI J 243 v28')] [(0, .ref a_t)] 156 []) : ∀ (N : Nat) (v26 : Int) (v27 : Int) (v28 : (Nat → Int)), sh_X9_readText_L124 F c_t_scriptSize f_t_script q13 q16 k N v26 v27 v28 = some res → Z p l e ({ frames := 4, cells := 0, slots := 0, locals := 93 } : Room) s m args below meth c (MQ below (zQ D J A (fun rv w9 => rv = some (.int (zi res.1)) ∧ w9 = [(a_t, .inr (8, [.int (zi c_t_refusal), .int (zi c_t_high), .int (zi c_t_wide), .ref a_t_now, .ref a_t_trial, .ref a_t_diary, .int (zi c_t_acts), .int (zi c_t_next), .ref a_t_kept, .ref a_t_isKept, .ref a_t_script, .int (zi c_t_scriptSize), .int (zi res.2.1), .ref a_t_read, .int (zi res.2.2.1), .int (zi res.2.2.2.1), .ref a_t_wanted, .ref a_t_level, .ref a_t_chosen, .ref a_t_best])), (a_t_script, zI J 120 f_t_script), (a_t_read, zI J 243 res.2.2.2.2)])) args s 0 0 A) cX9_readText 2 wsX9_readText RX9 D J A (some .int) (yX9_readText.name, []) 0 0 [(a_t, .inr (8, [.int (zi c_t_refusal), .int (zi c_t_high), .int (zi c_t_wide), .ref a_t_now, .ref a_t_trial, .ref a_t_diary, .int (zi c_t_acts), .int (zi c_t_next), .ref a_t_kept, .ref a_t_isKept, .ref a_t_script, .int (zi c_t_scriptSize), .int (zi v27), .ref a_t_read, .int (zi q13.1), .int (zi q16.1), .ref a_t_wanted, .ref a_t_level, .ref a_t_chosen, .ref a_t_best])), (a_t_script, zI J 120 f_t_script), (a_t_read, zI J 243 v28)] [(0, .ref a_t), (1, .int (zi v26))] 124 [] := by
  intro N
  induction N with
  | zero =>
    intro v26 v27 v28 hsh
    exact absurd hsh (by simp [sh_X9_readText_L124])
  | succ N ih =>
    intro v26 v27 v28 hsh
    rw [sh_X9_readText_L124] at hsh
    refine z_iload_n (pc' := 125) 1 dX9_readText_124 rfl rfl rfl ?_
    refine z_aload_n (pc' := 126) 0 dX9_readText_125 rfl rfl rfl ?_
    refine z_getfield (pc' := 129) (C := RX9) (T := TX9) (N := 20) 0 14 dX9_readText_126 iX9_readText_X9 rfl rfl (by decide) mX9_readText_f94 rfl rfl ?_
    refine z_aload_n (pc' := 130) 0 dX9_readText_129 rfl rfl rfl ?_
    refine z_getfield (pc' := 133) (C := RX9) (T := TX9) (N := 20) 0 15 dX9_readText_130 iX9_readText_X9 rfl rfl (by decide) mX9_readText_f97 rfl rfl ?_
    refine z_imul (pc' := 134) dX9_readText_133 rfl ?_
    have g29 := zkr_p hsh
    replace hsh := zkr_k hsh
    have g30 := zkr_p hsh
    replace hsh := zkr_k hsh
    refine z_icmp_ge (pc' := 137) (tgt := 156) dX9_readText_134 (by decide) g29 g30 rfl (fun q => ?_) (fun q => ?_)
    · replace hsh := zif_f q hsh
      refine z_perm [(a_t, .inr (8, [.int (zi c_t_refusal), .int (zi c_t_high), .int (zi c_t_wide), .ref a_t_now, .ref a_t_trial, .ref a_t_diary, .int (zi c_t_acts), .int (zi c_t_next), .ref a_t_kept, .ref a_t_isKept, .ref a_t_script, .int (zi c_t_scriptSize), .int (zi v27), .ref a_t_read, .int (zi q13.1), .int (zi q16.1), .ref a_t_wanted, .ref a_t_level, .ref a_t_chosen, .ref a_t_best])), (a_t_script, zI J 120 f_t_script), (a_t_read, zI J 243 v28)] [(0, .ref a_t)] [0, 1, 2] [0] rfl rfl rfl ?_
      exact hk _ _ _ hsh
    · replace hsh := zif_t q hsh
      refine z_aload_n (pc' := 138) 0 dX9_readText_137 rfl rfl rfl ?_
      refine z_iload_n (pc' := 139) 1 dX9_readText_138 rfl rfl rfl ?_
      obtain ⟨q31, h32, hsh⟩ := zbind hsh
      refine z_callV (pc' := 142) (C := RX9) (As := [.int (zi v26)]) (rest := []) (wr := []) 1 (zc_X9_readColumn l D J F (a_t := a_t) (a_t_now := a_t_now) (a_t_trial := a_t_trial) (a_t_diary := a_t_diary) (a_t_kept := a_t_kept) (a_t_isKept := a_t_isKept) (a_t_script := a_t_script) (a_t_read := a_t_read) (a_t_wanted := a_t_wanted) (a_t_level := a_t_level) (a_t_chosen := a_t_chosen) (a_t_best := a_t_best) (c_t_refusal := c_t_refusal) (c_t_high := c_t_high) (c_t_wide := c_t_wide) (c_t_acts := c_t_acts) (c_t_next := c_t_next) (c_t_scriptSize := c_t_scriptSize) (c_t_spot := v27) (c_t_readHigh := q13.1) (c_t_readWide := q16.1) (f_t_script := f_t_script) (f_t_read := v28) (p0 := v26)  q31 h32) dX9_readText_139 gX9_readText_X9_readColumn rfl rfl rfl (by decide +kernel) ⟨Nat.le_of_ble_eq_true rfl, Nat.le_of_ble_eq_true rfl⟩ ⟨Nat.le_of_ble_eq_true rfl, Nat.le_of_ble_eq_true rfl⟩ (z_spl_of [0, 1, 2] rfl rfl) rfl rfl rfl rfl (Nat.le_of_ble_eq_true rfl) rfl (fun rv w9 hq => ?_)
      obtain ⟨rfl, rfl⟩ := hq
      refine z_ws [(a_t, .inr (8, [.int (zi c_t_refusal), .int (zi c_t_high), .int (zi c_t_wide), .ref a_t_now, .ref a_t_trial, .ref a_t_diary, .int (zi c_t_acts), .int (zi c_t_next), .ref a_t_kept, .ref a_t_isKept, .ref a_t_script, .int (zi c_t_scriptSize), .int (zi q31.2.1), .ref a_t_read, .int (zi q13.1), .int (zi q16.1), .ref a_t_wanted, .ref a_t_level, .ref a_t_chosen, .ref a_t_best])), (a_t_script, zI J 120 f_t_script), (a_t_read, zI J 243 q31.2.2)] rfl ?_
      have g33 := zkr_p hsh
      replace hsh := zkr_k hsh
      refine z_if_ne (pc' := 145) (tgt := 150) dX9_readText_142 (by decide) g33 rfl (fun q => ?_) (fun q => ?_)
      · replace hsh := zif_f q hsh
        refine z_iinc (pc' := 153) [(1, .int (zi (v26 + (1 : Int)))), (0, .ref a_t)] 1 dX9_readText_150 rfl (by decide) rfl rfl ?_
        refine z_goto (tgt := 124) dX9_readText_153 (by decide) ?_
        refine z_perm [(a_t, .inr (8, [.int (zi c_t_refusal), .int (zi c_t_high), .int (zi c_t_wide), .ref a_t_now, .ref a_t_trial, .ref a_t_diary, .int (zi c_t_acts), .int (zi c_t_next), .ref a_t_kept, .ref a_t_isKept, .ref a_t_script, .int (zi c_t_scriptSize), .int (zi q31.2.1), .ref a_t_read, .int (zi q13.1), .int (zi q16.1), .ref a_t_wanted, .ref a_t_level, .ref a_t_chosen, .ref a_t_best])), (a_t_script, zI J 120 f_t_script), (a_t_read, zI J 243 q31.2.2)] [(0, .ref a_t), (1, .int (zi (v26 + (1 : Int))))] [0, 1, 2] [1, 0] rfl rfl rfl ?_
        exact ih _ _ _ hsh
      · replace hsh := zif_t q hsh
        refine z_aload_n (pc' := 146) 0 dX9_readText_145 rfl rfl rfl ?_
        refine z_getfield (pc' := 149) (C := RX9) (T := TX9) (N := 20) 0 12 dX9_readText_146 iX9_readText_X9 rfl rfl (by decide) mX9_readText_f81 rfl rfl ?_
        cases hsh
        exact z_iret rfl dX9_readText_149 ⟨rfl, rfl⟩
set_option maxRecDepth 100000 in
set_option maxHeartbeats 4000000 in
theorem zl_X9_readText_L124_2 {p : Program} {l : Launch} {e : Env} {s : State} {m : MethodId} {args : Array Value} {below : List Frame} {meth : Method} {c : Code} {A : Nat → Prop} {D : va_G} {J : Nat → ClassId} {F : Nat} {c_t_scriptSize : Int} {f_t_script : Nat → Int} {q13 : Int × Int} {q16 : Int × Int} {a_t : Nat} {c_t_refusal : Int} {c_t_high : Int} {c_t_wide : Int} {a_t_now : Nat} {a_t_trial : Nat} {a_t_diary : Nat} {c_t_acts : Int} {c_t_next : Int} {a_t_kept : Nat} {a_t_isKept : Nat} {a_t_script : Nat} {a_t_read : Nat} {a_t_wanted : Nat} {a_t_level : Nat} {a_t_chosen : Nat} {a_t_best : Nat} {res : Int × Int × Int × Int × (Nat → Int)} {k : Int → Int → (Nat → Int) → Option (Int × Int × Int × Int × (Nat → Int))} (hk : ∀ (v44' : Int) (v45' : Int) (v46' : (Nat → Int)), k v44' v45' v46' = some res → Z p l e ({ frames := 4, cells := 0, slots := 0, locals := 93 } : Room) s m args below meth c (MQ below (zQ D J A (fun rv w9 => rv = some (.int (zi res.1)) ∧ w9 = [(a_t, .inr (8, [.int (zi c_t_refusal), .int (zi c_t_high), .int (zi c_t_wide), .ref a_t_now, .ref a_t_trial, .ref a_t_diary, .int (zi c_t_acts), .int (zi c_t_next), .ref a_t_kept, .ref a_t_isKept, .ref a_t_script, .int (zi c_t_scriptSize), .int (zi res.2.1), .ref a_t_read, .int (zi res.2.2.1), .int (zi res.2.2.2.1), .ref a_t_wanted, .ref a_t_level, .ref a_t_chosen, .ref a_t_best])), (a_t_script, zI J 120 f_t_script), (a_t_read, zI J 243 res.2.2.2.2)])) args s 0 0 A) cX9_readText 2 wsX9_readText RX9 D J A (some .int) (yX9_readText.name, []) 0 0 [(a_t, .inr (8, [.int (zi c_t_refusal), .int (zi c_t_high), .int (zi c_t_wide), .ref a_t_now, .ref a_t_trial, .ref a_t_diary, .int (zi c_t_acts), .int (zi c_t_next), .ref a_t_kept, .ref a_t_isKept, .ref a_t_script, .int (zi c_t_scriptSize), .int (zi v45'), .ref a_t_read, .int (zi q13.1), .int (zi q16.1), .ref a_t_wanted, .ref a_t_level, .ref a_t_chosen, .ref a_t_best])), (a_t_script, zI J 120 f_t_script), (a_t_read, zI J 243 v46')] [(0, .ref a_t)] 156 []) : ∀ (N : Nat) (v44 : Int) (v45 : Int) (v46 : (Nat → Int)), sh_X9_readText_L124_2 F c_t_scriptSize f_t_script q13 q16 k N v44 v45 v46 = some res → Z p l e ({ frames := 4, cells := 0, slots := 0, locals := 93 } : Room) s m args below meth c (MQ below (zQ D J A (fun rv w9 => rv = some (.int (zi res.1)) ∧ w9 = [(a_t, .inr (8, [.int (zi c_t_refusal), .int (zi c_t_high), .int (zi c_t_wide), .ref a_t_now, .ref a_t_trial, .ref a_t_diary, .int (zi c_t_acts), .int (zi c_t_next), .ref a_t_kept, .ref a_t_isKept, .ref a_t_script, .int (zi c_t_scriptSize), .int (zi res.2.1), .ref a_t_read, .int (zi res.2.2.1), .int (zi res.2.2.2.1), .ref a_t_wanted, .ref a_t_level, .ref a_t_chosen, .ref a_t_best])), (a_t_script, zI J 120 f_t_script), (a_t_read, zI J 243 res.2.2.2.2)])) args s 0 0 A) cX9_readText 2 wsX9_readText RX9 D J A (some .int) (yX9_readText.name, []) 0 0 [(a_t, .inr (8, [.int (zi c_t_refusal), .int (zi c_t_high), .int (zi c_t_wide), .ref a_t_now, .ref a_t_trial, .ref a_t_diary, .int (zi c_t_acts), .int (zi c_t_next), .ref a_t_kept, .ref a_t_isKept, .ref a_t_script, .int (zi c_t_scriptSize), .int (zi v45), .ref a_t_read, .int (zi q13.1), .int (zi q16.1), .ref a_t_wanted, .ref a_t_level, .ref a_t_chosen, .ref a_t_best])), (a_t_script, zI J 120 f_t_script), (a_t_read, zI J 243 v46)] [(0, .ref a_t), (1, .int (zi v44))] 124 [] := by
  intro N
  induction N with
  | zero =>
    intro v44 v45 v46 hsh
    exact absurd hsh (by simp [sh_X9_readText_L124_2])
  | succ N ih =>
    intro v44 v45 v46 hsh
    rw [sh_X9_readText_L124_2] at hsh
    refine z_iload_n (pc' := 125) 1 dX9_readText_124 rfl rfl rfl ?_
    refine z_aload_n (pc' := 126) 0 dX9_readText_125 rfl rfl rfl ?_
    refine z_getfield (pc' := 129) (C := RX9) (T := TX9) (N := 20) 0 14 dX9_readText_126 iX9_readText_X9 rfl rfl (by decide) mX9_readText_f94 rfl rfl ?_
    refine z_aload_n (pc' := 130) 0 dX9_readText_129 rfl rfl rfl ?_
    refine z_getfield (pc' := 133) (C := RX9) (T := TX9) (N := 20) 0 15 dX9_readText_130 iX9_readText_X9 rfl rfl (by decide) mX9_readText_f97 rfl rfl ?_
    refine z_imul (pc' := 134) dX9_readText_133 rfl ?_
    have g47 := zkr_p hsh
    replace hsh := zkr_k hsh
    have g48 := zkr_p hsh
    replace hsh := zkr_k hsh
    refine z_icmp_ge (pc' := 137) (tgt := 156) dX9_readText_134 (by decide) g47 g48 rfl (fun q => ?_) (fun q => ?_)
    · replace hsh := zif_f q hsh
      refine z_perm [(a_t, .inr (8, [.int (zi c_t_refusal), .int (zi c_t_high), .int (zi c_t_wide), .ref a_t_now, .ref a_t_trial, .ref a_t_diary, .int (zi c_t_acts), .int (zi c_t_next), .ref a_t_kept, .ref a_t_isKept, .ref a_t_script, .int (zi c_t_scriptSize), .int (zi v45), .ref a_t_read, .int (zi q13.1), .int (zi q16.1), .ref a_t_wanted, .ref a_t_level, .ref a_t_chosen, .ref a_t_best])), (a_t_script, zI J 120 f_t_script), (a_t_read, zI J 243 v46)] [(0, .ref a_t)] [0, 1, 2] [0] rfl rfl rfl ?_
      exact hk _ _ _ hsh
    · replace hsh := zif_t q hsh
      refine z_aload_n (pc' := 138) 0 dX9_readText_137 rfl rfl rfl ?_
      refine z_iload_n (pc' := 139) 1 dX9_readText_138 rfl rfl rfl ?_
      obtain ⟨q49, h50, hsh⟩ := zbind hsh
      refine z_callV (pc' := 142) (C := RX9) (As := [.int (zi v44)]) (rest := []) (wr := []) 1 (zc_X9_readColumn l D J F (a_t := a_t) (a_t_now := a_t_now) (a_t_trial := a_t_trial) (a_t_diary := a_t_diary) (a_t_kept := a_t_kept) (a_t_isKept := a_t_isKept) (a_t_script := a_t_script) (a_t_read := a_t_read) (a_t_wanted := a_t_wanted) (a_t_level := a_t_level) (a_t_chosen := a_t_chosen) (a_t_best := a_t_best) (c_t_refusal := c_t_refusal) (c_t_high := c_t_high) (c_t_wide := c_t_wide) (c_t_acts := c_t_acts) (c_t_next := c_t_next) (c_t_scriptSize := c_t_scriptSize) (c_t_spot := v45) (c_t_readHigh := q13.1) (c_t_readWide := q16.1) (f_t_script := f_t_script) (f_t_read := v46) (p0 := v44)  q49 h50) dX9_readText_139 gX9_readText_X9_readColumn rfl rfl rfl (by decide +kernel) ⟨Nat.le_of_ble_eq_true rfl, Nat.le_of_ble_eq_true rfl⟩ ⟨Nat.le_of_ble_eq_true rfl, Nat.le_of_ble_eq_true rfl⟩ (z_spl_of [0, 1, 2] rfl rfl) rfl rfl rfl rfl (Nat.le_of_ble_eq_true rfl) rfl (fun rv w9 hq => ?_)
      obtain ⟨rfl, rfl⟩ := hq
      refine z_ws [(a_t, .inr (8, [.int (zi c_t_refusal), .int (zi c_t_high), .int (zi c_t_wide), .ref a_t_now, .ref a_t_trial, .ref a_t_diary, .int (zi c_t_acts), .int (zi c_t_next), .ref a_t_kept, .ref a_t_isKept, .ref a_t_script, .int (zi c_t_scriptSize), .int (zi q49.2.1), .ref a_t_read, .int (zi q13.1), .int (zi q16.1), .ref a_t_wanted, .ref a_t_level, .ref a_t_chosen, .ref a_t_best])), (a_t_script, zI J 120 f_t_script), (a_t_read, zI J 243 q49.2.2)] rfl ?_
      have g51 := zkr_p hsh
      replace hsh := zkr_k hsh
      refine z_if_ne (pc' := 145) (tgt := 150) dX9_readText_142 (by decide) g51 rfl (fun q => ?_) (fun q => ?_)
      · replace hsh := zif_f q hsh
        refine z_iinc (pc' := 153) [(1, .int (zi (v44 + (1 : Int)))), (0, .ref a_t)] 1 dX9_readText_150 rfl (by decide) rfl rfl ?_
        refine z_goto (tgt := 124) dX9_readText_153 (by decide) ?_
        refine z_perm [(a_t, .inr (8, [.int (zi c_t_refusal), .int (zi c_t_high), .int (zi c_t_wide), .ref a_t_now, .ref a_t_trial, .ref a_t_diary, .int (zi c_t_acts), .int (zi c_t_next), .ref a_t_kept, .ref a_t_isKept, .ref a_t_script, .int (zi c_t_scriptSize), .int (zi q49.2.1), .ref a_t_read, .int (zi q13.1), .int (zi q16.1), .ref a_t_wanted, .ref a_t_level, .ref a_t_chosen, .ref a_t_best])), (a_t_script, zI J 120 f_t_script), (a_t_read, zI J 243 q49.2.2)] [(0, .ref a_t), (1, .int (zi (v44 + (1 : Int))))] [0, 1, 2] [1, 0] rfl rfl rfl ?_
        exact ih _ _ _ hsh
      · replace hsh := zif_t q hsh
        refine z_aload_n (pc' := 146) 0 dX9_readText_145 rfl rfl rfl ?_
        refine z_getfield (pc' := 149) (C := RX9) (T := TX9) (N := 20) 0 12 dX9_readText_146 iX9_readText_X9 rfl rfl (by decide) mX9_readText_f81 rfl rfl ?_
        cases hsh
        exact z_iret rfl dX9_readText_149 ⟨rfl, rfl⟩
set_option maxRecDepth 100000 in
set_option maxHeartbeats 4000000 in
theorem zl_X9_readText_L124_3 {p : Program} {l : Launch} {e : Env} {s : State} {m : MethodId} {args : Array Value} {below : List Frame} {meth : Method} {c : Code} {A : Nat → Prop} {D : va_G} {J : Nat → ClassId} {F : Nat} {c_t_scriptSize : Int} {f_t_script : Nat → Int} {q13 : Int × Int} {a_t : Nat} {c_t_refusal : Int} {c_t_high : Int} {c_t_wide : Int} {a_t_now : Nat} {a_t_trial : Nat} {a_t_diary : Nat} {c_t_acts : Int} {c_t_next : Int} {a_t_kept : Nat} {a_t_isKept : Nat} {a_t_script : Nat} {a_t_read : Nat} {a_t_wanted : Nat} {a_t_level : Nat} {a_t_chosen : Nat} {a_t_best : Nat} {res : Int × Int × Int × Int × (Nat → Int)} {k : Int → Int → (Nat → Int) → Option (Int × Int × Int × Int × (Nat → Int))} (hk : ∀ (v64' : Int) (v65' : Int) (v66' : (Nat → Int)), k v64' v65' v66' = some res → Z p l e ({ frames := 4, cells := 0, slots := 0, locals := 93 } : Room) s m args below meth c (MQ below (zQ D J A (fun rv w9 => rv = some (.int (zi res.1)) ∧ w9 = [(a_t, .inr (8, [.int (zi c_t_refusal), .int (zi c_t_high), .int (zi c_t_wide), .ref a_t_now, .ref a_t_trial, .ref a_t_diary, .int (zi c_t_acts), .int (zi c_t_next), .ref a_t_kept, .ref a_t_isKept, .ref a_t_script, .int (zi c_t_scriptSize), .int (zi res.2.1), .ref a_t_read, .int (zi res.2.2.1), .int (zi res.2.2.2.1), .ref a_t_wanted, .ref a_t_level, .ref a_t_chosen, .ref a_t_best])), (a_t_script, zI J 120 f_t_script), (a_t_read, zI J 243 res.2.2.2.2)])) args s 0 0 A) cX9_readText 2 wsX9_readText RX9 D J A (some .int) (yX9_readText.name, []) 0 0 [(a_t, .inr (8, [.int (zi c_t_refusal), .int (zi c_t_high), .int (zi c_t_wide), .ref a_t_now, .ref a_t_trial, .ref a_t_diary, .int (zi c_t_acts), .int (zi c_t_next), .ref a_t_kept, .ref a_t_isKept, .ref a_t_script, .int (zi c_t_scriptSize), .int (zi v65'), .ref a_t_read, .int (zi q13.1), .int (zi (-9 : Int)), .ref a_t_wanted, .ref a_t_level, .ref a_t_chosen, .ref a_t_best])), (a_t_script, zI J 120 f_t_script), (a_t_read, zI J 243 v66')] [(0, .ref a_t)] 156 []) : ∀ (N : Nat) (v64 : Int) (v65 : Int) (v66 : (Nat → Int)), sh_X9_readText_L124_3 F c_t_scriptSize f_t_script q13 k N v64 v65 v66 = some res → Z p l e ({ frames := 4, cells := 0, slots := 0, locals := 93 } : Room) s m args below meth c (MQ below (zQ D J A (fun rv w9 => rv = some (.int (zi res.1)) ∧ w9 = [(a_t, .inr (8, [.int (zi c_t_refusal), .int (zi c_t_high), .int (zi c_t_wide), .ref a_t_now, .ref a_t_trial, .ref a_t_diary, .int (zi c_t_acts), .int (zi c_t_next), .ref a_t_kept, .ref a_t_isKept, .ref a_t_script, .int (zi c_t_scriptSize), .int (zi res.2.1), .ref a_t_read, .int (zi res.2.2.1), .int (zi res.2.2.2.1), .ref a_t_wanted, .ref a_t_level, .ref a_t_chosen, .ref a_t_best])), (a_t_script, zI J 120 f_t_script), (a_t_read, zI J 243 res.2.2.2.2)])) args s 0 0 A) cX9_readText 2 wsX9_readText RX9 D J A (some .int) (yX9_readText.name, []) 0 0 [(a_t, .inr (8, [.int (zi c_t_refusal), .int (zi c_t_high), .int (zi c_t_wide), .ref a_t_now, .ref a_t_trial, .ref a_t_diary, .int (zi c_t_acts), .int (zi c_t_next), .ref a_t_kept, .ref a_t_isKept, .ref a_t_script, .int (zi c_t_scriptSize), .int (zi v65), .ref a_t_read, .int (zi q13.1), .int (zi (-9 : Int)), .ref a_t_wanted, .ref a_t_level, .ref a_t_chosen, .ref a_t_best])), (a_t_script, zI J 120 f_t_script), (a_t_read, zI J 243 v66)] [(0, .ref a_t), (1, .int (zi v64))] 124 [] := by
  intro N
  induction N with
  | zero =>
    intro v64 v65 v66 hsh
    exact absurd hsh (by simp [sh_X9_readText_L124_3])
  | succ N ih =>
    intro v64 v65 v66 hsh
    rw [sh_X9_readText_L124_3] at hsh
    refine z_iload_n (pc' := 125) 1 dX9_readText_124 rfl rfl rfl ?_
    refine z_aload_n (pc' := 126) 0 dX9_readText_125 rfl rfl rfl ?_
    refine z_getfield (pc' := 129) (C := RX9) (T := TX9) (N := 20) 0 14 dX9_readText_126 iX9_readText_X9 rfl rfl (by decide) mX9_readText_f94 rfl rfl ?_
    refine z_aload_n (pc' := 130) 0 dX9_readText_129 rfl rfl rfl ?_
    refine z_getfield (pc' := 133) (C := RX9) (T := TX9) (N := 20) 0 15 dX9_readText_130 iX9_readText_X9 rfl rfl (by decide) mX9_readText_f97 rfl rfl ?_
    refine z_imul (pc' := 134) dX9_readText_133 rfl ?_
    have g67 := zkr_p hsh
    replace hsh := zkr_k hsh
    have g68 := zkr_p hsh
    replace hsh := zkr_k hsh
    refine z_icmp_ge (pc' := 137) (tgt := 156) dX9_readText_134 (by decide) g67 g68 rfl (fun q => ?_) (fun q => ?_)
    · replace hsh := zif_f q hsh
      refine z_perm [(a_t, .inr (8, [.int (zi c_t_refusal), .int (zi c_t_high), .int (zi c_t_wide), .ref a_t_now, .ref a_t_trial, .ref a_t_diary, .int (zi c_t_acts), .int (zi c_t_next), .ref a_t_kept, .ref a_t_isKept, .ref a_t_script, .int (zi c_t_scriptSize), .int (zi v65), .ref a_t_read, .int (zi q13.1), .int (zi (-9 : Int)), .ref a_t_wanted, .ref a_t_level, .ref a_t_chosen, .ref a_t_best])), (a_t_script, zI J 120 f_t_script), (a_t_read, zI J 243 v66)] [(0, .ref a_t)] [0, 1, 2] [0] rfl rfl rfl ?_
      exact hk _ _ _ hsh
    · replace hsh := zif_t q hsh
      refine z_aload_n (pc' := 138) 0 dX9_readText_137 rfl rfl rfl ?_
      refine z_iload_n (pc' := 139) 1 dX9_readText_138 rfl rfl rfl ?_
      obtain ⟨q69, h70, hsh⟩ := zbind hsh
      refine z_callV (pc' := 142) (C := RX9) (As := [.int (zi v64)]) (rest := []) (wr := []) 1 (zc_X9_readColumn l D J F (a_t := a_t) (a_t_now := a_t_now) (a_t_trial := a_t_trial) (a_t_diary := a_t_diary) (a_t_kept := a_t_kept) (a_t_isKept := a_t_isKept) (a_t_script := a_t_script) (a_t_read := a_t_read) (a_t_wanted := a_t_wanted) (a_t_level := a_t_level) (a_t_chosen := a_t_chosen) (a_t_best := a_t_best) (c_t_refusal := c_t_refusal) (c_t_high := c_t_high) (c_t_wide := c_t_wide) (c_t_acts := c_t_acts) (c_t_next := c_t_next) (c_t_scriptSize := c_t_scriptSize) (c_t_spot := v65) (c_t_readHigh := q13.1) (c_t_readWide := (-9 : Int)) (f_t_script := f_t_script) (f_t_read := v66) (p0 := v64)  q69 h70) dX9_readText_139 gX9_readText_X9_readColumn rfl rfl rfl (by decide +kernel) ⟨Nat.le_of_ble_eq_true rfl, Nat.le_of_ble_eq_true rfl⟩ ⟨Nat.le_of_ble_eq_true rfl, Nat.le_of_ble_eq_true rfl⟩ (z_spl_of [0, 1, 2] rfl rfl) rfl rfl rfl rfl (Nat.le_of_ble_eq_true rfl) rfl (fun rv w9 hq => ?_)
      obtain ⟨rfl, rfl⟩ := hq
      refine z_ws [(a_t, .inr (8, [.int (zi c_t_refusal), .int (zi c_t_high), .int (zi c_t_wide), .ref a_t_now, .ref a_t_trial, .ref a_t_diary, .int (zi c_t_acts), .int (zi c_t_next), .ref a_t_kept, .ref a_t_isKept, .ref a_t_script, .int (zi c_t_scriptSize), .int (zi q69.2.1), .ref a_t_read, .int (zi q13.1), .int (zi (-9 : Int)), .ref a_t_wanted, .ref a_t_level, .ref a_t_chosen, .ref a_t_best])), (a_t_script, zI J 120 f_t_script), (a_t_read, zI J 243 q69.2.2)] rfl ?_
      have g71 := zkr_p hsh
      replace hsh := zkr_k hsh
      refine z_if_ne (pc' := 145) (tgt := 150) dX9_readText_142 (by decide) g71 rfl (fun q => ?_) (fun q => ?_)
      · replace hsh := zif_f q hsh
        refine z_iinc (pc' := 153) [(1, .int (zi (v64 + (1 : Int)))), (0, .ref a_t)] 1 dX9_readText_150 rfl (by decide) rfl rfl ?_
        refine z_goto (tgt := 124) dX9_readText_153 (by decide) ?_
        refine z_perm [(a_t, .inr (8, [.int (zi c_t_refusal), .int (zi c_t_high), .int (zi c_t_wide), .ref a_t_now, .ref a_t_trial, .ref a_t_diary, .int (zi c_t_acts), .int (zi c_t_next), .ref a_t_kept, .ref a_t_isKept, .ref a_t_script, .int (zi c_t_scriptSize), .int (zi q69.2.1), .ref a_t_read, .int (zi q13.1), .int (zi (-9 : Int)), .ref a_t_wanted, .ref a_t_level, .ref a_t_chosen, .ref a_t_best])), (a_t_script, zI J 120 f_t_script), (a_t_read, zI J 243 q69.2.2)] [(0, .ref a_t), (1, .int (zi (v64 + (1 : Int))))] [0, 1, 2] [1, 0] rfl rfl rfl ?_
        exact ih _ _ _ hsh
      · replace hsh := zif_t q hsh
        refine z_aload_n (pc' := 146) 0 dX9_readText_145 rfl rfl rfl ?_
        refine z_getfield (pc' := 149) (C := RX9) (T := TX9) (N := 20) 0 12 dX9_readText_146 iX9_readText_X9 rfl rfl (by decide) mX9_readText_f81 rfl rfl ?_
        cases hsh
        exact z_iret rfl dX9_readText_149 ⟨rfl, rfl⟩
set_option maxRecDepth 100000 in
set_option maxHeartbeats 4000000 in
theorem zl_X9_readText_L124_4 {p : Program} {l : Launch} {e : Env} {s : State} {m : MethodId} {args : Array Value} {below : List Frame} {meth : Method} {c : Code} {A : Nat → Prop} {D : va_G} {J : Nat → ClassId} {F : Nat} {c_t_scriptSize : Int} {f_t_script : Nat → Int} {q13 : Int × Int} {a_t : Nat} {c_t_refusal : Int} {c_t_high : Int} {c_t_wide : Int} {a_t_now : Nat} {a_t_trial : Nat} {a_t_diary : Nat} {c_t_acts : Int} {c_t_next : Int} {a_t_kept : Nat} {a_t_isKept : Nat} {a_t_script : Nat} {a_t_read : Nat} {a_t_wanted : Nat} {a_t_level : Nat} {a_t_chosen : Nat} {a_t_best : Nat} {res : Int × Int × Int × Int × (Nat → Int)} {k : Int → Int → (Nat → Int) → Option (Int × Int × Int × Int × (Nat → Int))} (hk : ∀ (v82' : Int) (v83' : Int) (v84' : (Nat → Int)), k v82' v83' v84' = some res → Z p l e ({ frames := 4, cells := 0, slots := 0, locals := 93 } : Room) s m args below meth c (MQ below (zQ D J A (fun rv w9 => rv = some (.int (zi res.1)) ∧ w9 = [(a_t, .inr (8, [.int (zi c_t_refusal), .int (zi c_t_high), .int (zi c_t_wide), .ref a_t_now, .ref a_t_trial, .ref a_t_diary, .int (zi c_t_acts), .int (zi c_t_next), .ref a_t_kept, .ref a_t_isKept, .ref a_t_script, .int (zi c_t_scriptSize), .int (zi res.2.1), .ref a_t_read, .int (zi res.2.2.1), .int (zi res.2.2.2.1), .ref a_t_wanted, .ref a_t_level, .ref a_t_chosen, .ref a_t_best])), (a_t_script, zI J 120 f_t_script), (a_t_read, zI J 243 res.2.2.2.2)])) args s 0 0 A) cX9_readText 2 wsX9_readText RX9 D J A (some .int) (yX9_readText.name, []) 0 0 [(a_t, .inr (8, [.int (zi c_t_refusal), .int (zi c_t_high), .int (zi c_t_wide), .ref a_t_now, .ref a_t_trial, .ref a_t_diary, .int (zi c_t_acts), .int (zi c_t_next), .ref a_t_kept, .ref a_t_isKept, .ref a_t_script, .int (zi c_t_scriptSize), .int (zi v83'), .ref a_t_read, .int (zi q13.1), .int (zi (-9 : Int)), .ref a_t_wanted, .ref a_t_level, .ref a_t_chosen, .ref a_t_best])), (a_t_script, zI J 120 f_t_script), (a_t_read, zI J 243 v84')] [(0, .ref a_t)] 156 []) : ∀ (N : Nat) (v82 : Int) (v83 : Int) (v84 : (Nat → Int)), sh_X9_readText_L124_4 F c_t_scriptSize f_t_script q13 k N v82 v83 v84 = some res → Z p l e ({ frames := 4, cells := 0, slots := 0, locals := 93 } : Room) s m args below meth c (MQ below (zQ D J A (fun rv w9 => rv = some (.int (zi res.1)) ∧ w9 = [(a_t, .inr (8, [.int (zi c_t_refusal), .int (zi c_t_high), .int (zi c_t_wide), .ref a_t_now, .ref a_t_trial, .ref a_t_diary, .int (zi c_t_acts), .int (zi c_t_next), .ref a_t_kept, .ref a_t_isKept, .ref a_t_script, .int (zi c_t_scriptSize), .int (zi res.2.1), .ref a_t_read, .int (zi res.2.2.1), .int (zi res.2.2.2.1), .ref a_t_wanted, .ref a_t_level, .ref a_t_chosen, .ref a_t_best])), (a_t_script, zI J 120 f_t_script), (a_t_read, zI J 243 res.2.2.2.2)])) args s 0 0 A) cX9_readText 2 wsX9_readText RX9 D J A (some .int) (yX9_readText.name, []) 0 0 [(a_t, .inr (8, [.int (zi c_t_refusal), .int (zi c_t_high), .int (zi c_t_wide), .ref a_t_now, .ref a_t_trial, .ref a_t_diary, .int (zi c_t_acts), .int (zi c_t_next), .ref a_t_kept, .ref a_t_isKept, .ref a_t_script, .int (zi c_t_scriptSize), .int (zi v83), .ref a_t_read, .int (zi q13.1), .int (zi (-9 : Int)), .ref a_t_wanted, .ref a_t_level, .ref a_t_chosen, .ref a_t_best])), (a_t_script, zI J 120 f_t_script), (a_t_read, zI J 243 v84)] [(0, .ref a_t), (1, .int (zi v82))] 124 [] := by
  intro N
  induction N with
  | zero =>
    intro v82 v83 v84 hsh
    exact absurd hsh (by simp [sh_X9_readText_L124_4])
  | succ N ih =>
    intro v82 v83 v84 hsh
    rw [sh_X9_readText_L124_4] at hsh
    refine z_iload_n (pc' := 125) 1 dX9_readText_124 rfl rfl rfl ?_
    refine z_aload_n (pc' := 126) 0 dX9_readText_125 rfl rfl rfl ?_
    refine z_getfield (pc' := 129) (C := RX9) (T := TX9) (N := 20) 0 14 dX9_readText_126 iX9_readText_X9 rfl rfl (by decide) mX9_readText_f94 rfl rfl ?_
    refine z_aload_n (pc' := 130) 0 dX9_readText_129 rfl rfl rfl ?_
    refine z_getfield (pc' := 133) (C := RX9) (T := TX9) (N := 20) 0 15 dX9_readText_130 iX9_readText_X9 rfl rfl (by decide) mX9_readText_f97 rfl rfl ?_
    refine z_imul (pc' := 134) dX9_readText_133 rfl ?_
    have g85 := zkr_p hsh
    replace hsh := zkr_k hsh
    have g86 := zkr_p hsh
    replace hsh := zkr_k hsh
    refine z_icmp_ge (pc' := 137) (tgt := 156) dX9_readText_134 (by decide) g85 g86 rfl (fun q => ?_) (fun q => ?_)
    · replace hsh := zif_f q hsh
      refine z_perm [(a_t, .inr (8, [.int (zi c_t_refusal), .int (zi c_t_high), .int (zi c_t_wide), .ref a_t_now, .ref a_t_trial, .ref a_t_diary, .int (zi c_t_acts), .int (zi c_t_next), .ref a_t_kept, .ref a_t_isKept, .ref a_t_script, .int (zi c_t_scriptSize), .int (zi v83), .ref a_t_read, .int (zi q13.1), .int (zi (-9 : Int)), .ref a_t_wanted, .ref a_t_level, .ref a_t_chosen, .ref a_t_best])), (a_t_script, zI J 120 f_t_script), (a_t_read, zI J 243 v84)] [(0, .ref a_t)] [0, 1, 2] [0] rfl rfl rfl ?_
      exact hk _ _ _ hsh
    · replace hsh := zif_t q hsh
      refine z_aload_n (pc' := 138) 0 dX9_readText_137 rfl rfl rfl ?_
      refine z_iload_n (pc' := 139) 1 dX9_readText_138 rfl rfl rfl ?_
      obtain ⟨q87, h88, hsh⟩ := zbind hsh
      refine z_callV (pc' := 142) (C := RX9) (As := [.int (zi v82)]) (rest := []) (wr := []) 1 (zc_X9_readColumn l D J F (a_t := a_t) (a_t_now := a_t_now) (a_t_trial := a_t_trial) (a_t_diary := a_t_diary) (a_t_kept := a_t_kept) (a_t_isKept := a_t_isKept) (a_t_script := a_t_script) (a_t_read := a_t_read) (a_t_wanted := a_t_wanted) (a_t_level := a_t_level) (a_t_chosen := a_t_chosen) (a_t_best := a_t_best) (c_t_refusal := c_t_refusal) (c_t_high := c_t_high) (c_t_wide := c_t_wide) (c_t_acts := c_t_acts) (c_t_next := c_t_next) (c_t_scriptSize := c_t_scriptSize) (c_t_spot := v83) (c_t_readHigh := q13.1) (c_t_readWide := (-9 : Int)) (f_t_script := f_t_script) (f_t_read := v84) (p0 := v82)  q87 h88) dX9_readText_139 gX9_readText_X9_readColumn rfl rfl rfl (by decide +kernel) ⟨Nat.le_of_ble_eq_true rfl, Nat.le_of_ble_eq_true rfl⟩ ⟨Nat.le_of_ble_eq_true rfl, Nat.le_of_ble_eq_true rfl⟩ (z_spl_of [0, 1, 2] rfl rfl) rfl rfl rfl rfl (Nat.le_of_ble_eq_true rfl) rfl (fun rv w9 hq => ?_)
      obtain ⟨rfl, rfl⟩ := hq
      refine z_ws [(a_t, .inr (8, [.int (zi c_t_refusal), .int (zi c_t_high), .int (zi c_t_wide), .ref a_t_now, .ref a_t_trial, .ref a_t_diary, .int (zi c_t_acts), .int (zi c_t_next), .ref a_t_kept, .ref a_t_isKept, .ref a_t_script, .int (zi c_t_scriptSize), .int (zi q87.2.1), .ref a_t_read, .int (zi q13.1), .int (zi (-9 : Int)), .ref a_t_wanted, .ref a_t_level, .ref a_t_chosen, .ref a_t_best])), (a_t_script, zI J 120 f_t_script), (a_t_read, zI J 243 q87.2.2)] rfl ?_
      have g89 := zkr_p hsh
      replace hsh := zkr_k hsh
      refine z_if_ne (pc' := 145) (tgt := 150) dX9_readText_142 (by decide) g89 rfl (fun q => ?_) (fun q => ?_)
      · replace hsh := zif_f q hsh
        refine z_iinc (pc' := 153) [(1, .int (zi (v82 + (1 : Int)))), (0, .ref a_t)] 1 dX9_readText_150 rfl (by decide) rfl rfl ?_
        refine z_goto (tgt := 124) dX9_readText_153 (by decide) ?_
        refine z_perm [(a_t, .inr (8, [.int (zi c_t_refusal), .int (zi c_t_high), .int (zi c_t_wide), .ref a_t_now, .ref a_t_trial, .ref a_t_diary, .int (zi c_t_acts), .int (zi c_t_next), .ref a_t_kept, .ref a_t_isKept, .ref a_t_script, .int (zi c_t_scriptSize), .int (zi q87.2.1), .ref a_t_read, .int (zi q13.1), .int (zi (-9 : Int)), .ref a_t_wanted, .ref a_t_level, .ref a_t_chosen, .ref a_t_best])), (a_t_script, zI J 120 f_t_script), (a_t_read, zI J 243 q87.2.2)] [(0, .ref a_t), (1, .int (zi (v82 + (1 : Int))))] [0, 1, 2] [1, 0] rfl rfl rfl ?_
        exact ih _ _ _ hsh
      · replace hsh := zif_t q hsh
        refine z_aload_n (pc' := 146) 0 dX9_readText_145 rfl rfl rfl ?_
        refine z_getfield (pc' := 149) (C := RX9) (T := TX9) (N := 20) 0 12 dX9_readText_146 iX9_readText_X9 rfl rfl (by decide) mX9_readText_f81 rfl rfl ?_
        cases hsh
        exact z_iret rfl dX9_readText_149 ⟨rfl, rfl⟩
set_option maxRecDepth 100000 in
set_option maxHeartbeats 4000000 in
theorem zc_X9_readText (l : Launch) (D : va_G) (J : Nat → ClassId) (F : Nat) (a_t : Nat) (a_t_now : Nat) (a_t_trial : Nat) (a_t_diary : Nat) (a_t_kept : Nat) (a_t_isKept : Nat) (a_t_script : Nat) (a_t_read : Nat) (a_t_wanted : Nat) (a_t_level : Nat) (a_t_chosen : Nat) (a_t_best : Nat) (c_t_refusal : Int) (c_t_high : Int) (c_t_wide : Int) (c_t_acts : Int) (c_t_next : Int) (c_t_scriptSize : Int) (c_t_spot : Int) (c_t_readHigh : Int) (c_t_readWide : Int) (f_t_script : Nat → Int) (f_t_read : Nat → Int) (res : Int × Int × Int × Int × (Nat → Int)) (hsh : sh_X9_readText F c_t_scriptSize c_t_readHigh c_t_readWide f_t_script f_t_read = some res) : ZM l D J yX9_readText wsX9_readText ({ frames := 4, cells := 0, slots := 0, locals := 93 } : Room) 0 0 [.ref a_t] [(a_t, .inr (8, [.int (zi c_t_refusal), .int (zi c_t_high), .int (zi c_t_wide), .ref a_t_now, .ref a_t_trial, .ref a_t_diary, .int (zi c_t_acts), .int (zi c_t_next), .ref a_t_kept, .ref a_t_isKept, .ref a_t_script, .int (zi c_t_scriptSize), .int (zi c_t_spot), .ref a_t_read, .int (zi c_t_readHigh), .int (zi c_t_readWide), .ref a_t_wanted, .ref a_t_level, .ref a_t_chosen, .ref a_t_best])), (a_t_script, zI J 120 f_t_script), (a_t_read, zI J 243 f_t_read)] (fun rv w9 => rv = some (.int (zi res.1)) ∧ w9 = [(a_t, .inr (8, [.int (zi c_t_refusal), .int (zi c_t_high), .int (zi c_t_wide), .ref a_t_now, .ref a_t_trial, .ref a_t_diary, .int (zi c_t_acts), .int (zi c_t_next), .ref a_t_kept, .ref a_t_isKept, .ref a_t_script, .int (zi c_t_scriptSize), .int (zi res.2.1), .ref a_t_read, .int (zi res.2.2.1), .int (zi res.2.2.2.1), .ref a_t_wanted, .ref a_t_level, .ref a_t_chosen, .ref a_t_best])), (a_t_script, zI J 120 f_t_script), (a_t_read, zI J 243 res.2.2.2.2)]) := by
  refine z_ofZ (cc := cX9_readText) (maxL := 2) (ret := (some .int)) 0 0 (by decide) rfl (Nat.le_of_ble_eq_true rfl) [(0, .ref a_t)] rfl ?_
  intro p e s m args below meth c A
  unfold sh_X9_readText at hsh
  refine z_iconst (pc' := 1) dX9_readText_0 rfl ?_
  refine z_istore_n (pc' := 2) [(1, .int (zi (0 : Int))), (0, .ref a_t)] dX9_readText_1 rfl (by decide) rfl rfl ?_
  refine z_perm [(a_t, .inr (8, [.int (zi c_t_refusal), .int (zi c_t_high), .int (zi c_t_wide), .ref a_t_now, .ref a_t_trial, .ref a_t_diary, .int (zi c_t_acts), .int (zi c_t_next), .ref a_t_kept, .ref a_t_isKept, .ref a_t_script, .int (zi c_t_scriptSize), .int (zi c_t_spot), .ref a_t_read, .int (zi c_t_readHigh), .int (zi c_t_readWide), .ref a_t_wanted, .ref a_t_level, .ref a_t_chosen, .ref a_t_best])), (a_t_script, zI J 120 f_t_script), (a_t_read, zI J 243 f_t_read)] [(0, .ref a_t), (1, .int (zi (0 : Int)))] [0, 1, 2] [1, 0] rfl rfl rfl ?_
  refine zl_X9_readText_L2 (F := F) (hk := fun v8 v9 hsh => ?_) _ _ _ hsh
  refine z_aload_n (pc' := 23) 0 dX9_readText_22 rfl rfl rfl ?_
  refine z_iconst (pc' := 24) dX9_readText_23 rfl ?_
  refine z_putfield (pc' := 27) (C := RX9) (T := TX9) (N := 20) (ty := .int) 0 12 [(a_t, .inr (8, [.int (zi c_t_refusal), .int (zi c_t_high), .int (zi c_t_wide), .ref a_t_now, .ref a_t_trial, .ref a_t_diary, .int (zi c_t_acts), .int (zi c_t_next), .ref a_t_kept, .ref a_t_isKept, .ref a_t_script, .int (zi c_t_scriptSize), .int (zi (0 : Int)), .ref a_t_read, .int (zi c_t_readHigh), .int (zi c_t_readWide), .ref a_t_wanted, .ref a_t_level, .ref a_t_chosen, .ref a_t_best])), (a_t_script, zI J 120 f_t_script), (a_t_read, zI J 243 v9)] tyX9 tyX9_ok nmX9 dX9_readText_24 iX9_readText_X9 rfl rfl (by decide) mX9_readText_f81 rfl (by decide +kernel) rfl rfl (Nat.le_of_ble_eq_true rfl) rfl rfl rfl ?_
  refine z_aload_n (pc' := 28) 0 dX9_readText_27 rfl rfl rfl ?_
  refine z_bipush (pc' := 30) dX9_readText_28 (by decide) rfl ?_
  obtain ⟨q10, h11, hsh⟩ := zbind hsh
  refine z_callV (pc' := 33) (C := RX9) (As := [.int (zi (68 : Int))]) (rest := []) (wr := [(a_t_read, zI J 243 v9)]) 1 (zc_X9_readLetter l D J F (a_t := a_t) (a_t_now := a_t_now) (a_t_trial := a_t_trial) (a_t_diary := a_t_diary) (a_t_kept := a_t_kept) (a_t_isKept := a_t_isKept) (a_t_script := a_t_script) (a_t_read := a_t_read) (a_t_wanted := a_t_wanted) (a_t_level := a_t_level) (a_t_chosen := a_t_chosen) (a_t_best := a_t_best) (c_t_refusal := c_t_refusal) (c_t_high := c_t_high) (c_t_wide := c_t_wide) (c_t_acts := c_t_acts) (c_t_next := c_t_next) (c_t_scriptSize := c_t_scriptSize) (c_t_spot := (0 : Int)) (c_t_readHigh := c_t_readHigh) (c_t_readWide := c_t_readWide) (f_t_script := f_t_script) (p0 := (68 : Int))  q10 h11) dX9_readText_30 gX9_readText_X9_readLetter rfl rfl rfl (by decide +kernel) ⟨Nat.le_of_ble_eq_true rfl, Nat.le_of_ble_eq_true rfl⟩ ⟨Nat.le_of_ble_eq_true rfl, Nat.le_of_ble_eq_true rfl⟩ (z_spl_of [0, 1, 2] rfl rfl) rfl rfl rfl rfl (Nat.le_of_ble_eq_true rfl) rfl (fun rv w9 hq => ?_)
  obtain ⟨rfl, rfl⟩ := hq
  refine z_ws [(a_t_read, zI J 243 v9), (a_t, .inr (8, [.int (zi c_t_refusal), .int (zi c_t_high), .int (zi c_t_wide), .ref a_t_now, .ref a_t_trial, .ref a_t_diary, .int (zi c_t_acts), .int (zi c_t_next), .ref a_t_kept, .ref a_t_isKept, .ref a_t_script, .int (zi c_t_scriptSize), .int (zi q10.2), .ref a_t_read, .int (zi c_t_readHigh), .int (zi c_t_readWide), .ref a_t_wanted, .ref a_t_level, .ref a_t_chosen, .ref a_t_best])), (a_t_script, zI J 120 f_t_script)] rfl ?_
  have g12 := zkr_p hsh
  replace hsh := zkr_k hsh
  refine z_if_ne (pc' := 36) (tgt := 41) dX9_readText_33 (by decide) g12 rfl (fun q => ?_) (fun q => ?_)
  · replace hsh := zif_f q hsh
    refine z_aload_n (pc' := 42) 0 dX9_readText_41 rfl rfl rfl ?_
    refine z_aload_n (pc' := 43) 0 dX9_readText_42 rfl rfl rfl ?_
    refine z_iconst (pc' := 44) dX9_readText_43 rfl ?_
    refine z_iconst (pc' := 45) dX9_readText_44 rfl ?_
    obtain ⟨q13, h14, hsh⟩ := zbind hsh
    refine z_callV (pc' := 48) (C := RX9) (As := [.int (zi (1 : Int)), .int (zi (4 : Int))]) (rest := [.ref a_t]) (wr := [(a_t_read, zI J 243 v9)]) 2 (zc_X9_digit l D J F (a_t := a_t) (a_t_now := a_t_now) (a_t_trial := a_t_trial) (a_t_diary := a_t_diary) (a_t_kept := a_t_kept) (a_t_isKept := a_t_isKept) (a_t_script := a_t_script) (a_t_read := a_t_read) (a_t_wanted := a_t_wanted) (a_t_level := a_t_level) (a_t_chosen := a_t_chosen) (a_t_best := a_t_best) (c_t_refusal := c_t_refusal) (c_t_high := c_t_high) (c_t_wide := c_t_wide) (c_t_acts := c_t_acts) (c_t_next := c_t_next) (c_t_scriptSize := c_t_scriptSize) (c_t_spot := q10.2) (c_t_readHigh := c_t_readHigh) (c_t_readWide := c_t_readWide) (f_t_script := f_t_script) (p0 := (1 : Int)) (p1 := (4 : Int))  q13 h14) dX9_readText_45 gX9_readText_X9_digit rfl rfl rfl (by decide +kernel) ⟨Nat.le_of_ble_eq_true rfl, Nat.le_of_ble_eq_true rfl⟩ ⟨Nat.le_of_ble_eq_true rfl, Nat.le_of_ble_eq_true rfl⟩ (z_spl_of [1, 2, 0] rfl rfl) rfl rfl rfl rfl (Nat.le_of_ble_eq_true rfl) rfl (fun rv w9 hq => ?_)
    obtain ⟨rfl, rfl⟩ := hq
    refine z_ws [(a_t_read, zI J 243 v9), (a_t, .inr (8, [.int (zi c_t_refusal), .int (zi c_t_high), .int (zi c_t_wide), .ref a_t_now, .ref a_t_trial, .ref a_t_diary, .int (zi c_t_acts), .int (zi c_t_next), .ref a_t_kept, .ref a_t_isKept, .ref a_t_script, .int (zi c_t_scriptSize), .int (zi q13.2), .ref a_t_read, .int (zi c_t_readHigh), .int (zi c_t_readWide), .ref a_t_wanted, .ref a_t_level, .ref a_t_chosen, .ref a_t_best])), (a_t_script, zI J 120 f_t_script)] rfl ?_
    refine z_putfield (pc' := 51) (C := RX9) (T := TX9) (N := 20) (ty := .int) 1 14 [(a_t_read, zI J 243 v9), (a_t, .inr (8, [.int (zi c_t_refusal), .int (zi c_t_high), .int (zi c_t_wide), .ref a_t_now, .ref a_t_trial, .ref a_t_diary, .int (zi c_t_acts), .int (zi c_t_next), .ref a_t_kept, .ref a_t_isKept, .ref a_t_script, .int (zi c_t_scriptSize), .int (zi q13.2), .ref a_t_read, .int (zi q13.1), .int (zi c_t_readWide), .ref a_t_wanted, .ref a_t_level, .ref a_t_chosen, .ref a_t_best])), (a_t_script, zI J 120 f_t_script)] tyX9 tyX9_ok nmX9 dX9_readText_48 iX9_readText_X9 rfl rfl (by decide) mX9_readText_f94 rfl (by decide +kernel) rfl rfl (Nat.le_of_ble_eq_true rfl) rfl rfl rfl ?_
    refine z_aload_n (pc' := 52) 0 dX9_readText_51 rfl rfl rfl ?_
    refine z_aload_n (pc' := 53) 0 dX9_readText_52 rfl rfl rfl ?_
    refine z_getfield (pc' := 56) (C := RX9) (T := TX9) (N := 20) 1 14 dX9_readText_53 iX9_readText_X9 rfl rfl (by decide) mX9_readText_f94 rfl rfl ?_
    refine z_bipush (pc' := 58) dX9_readText_56 (by decide) rfl ?_
    have g15 := zkr_p hsh
    replace hsh := zkr_k hsh
    refine z_icmp_ne (pc' := 61) (tgt := 66) dX9_readText_58 (by decide) g15 (by decide) rfl (fun q => ?_) (fun q => ?_)
    · replace hsh := zif_f q hsh
      refine z_aload_n (pc' := 67) 0 dX9_readText_66 rfl rfl rfl ?_
      refine z_iconst (pc' := 68) dX9_readText_67 rfl ?_
      refine z_iconst (pc' := 69) dX9_readText_68 rfl ?_
      obtain ⟨q16, h17, hsh⟩ := zbind hsh
      refine z_callV (pc' := 72) (C := RX9) (As := [.int (zi (1 : Int)), .int (zi (4 : Int))]) (rest := [.ref a_t]) (wr := [(a_t_read, zI J 243 v9)]) 2 (zc_X9_digit l D J F (a_t := a_t) (a_t_now := a_t_now) (a_t_trial := a_t_trial) (a_t_diary := a_t_diary) (a_t_kept := a_t_kept) (a_t_isKept := a_t_isKept) (a_t_script := a_t_script) (a_t_read := a_t_read) (a_t_wanted := a_t_wanted) (a_t_level := a_t_level) (a_t_chosen := a_t_chosen) (a_t_best := a_t_best) (c_t_refusal := c_t_refusal) (c_t_high := c_t_high) (c_t_wide := c_t_wide) (c_t_acts := c_t_acts) (c_t_next := c_t_next) (c_t_scriptSize := c_t_scriptSize) (c_t_spot := q13.2) (c_t_readHigh := q13.1) (c_t_readWide := c_t_readWide) (f_t_script := f_t_script) (p0 := (1 : Int)) (p1 := (4 : Int))  q16 h17) dX9_readText_69 gX9_readText_X9_digit rfl rfl rfl (by decide +kernel) ⟨Nat.le_of_ble_eq_true rfl, Nat.le_of_ble_eq_true rfl⟩ ⟨Nat.le_of_ble_eq_true rfl, Nat.le_of_ble_eq_true rfl⟩ (z_spl_of [1, 2, 0] rfl rfl) rfl rfl rfl rfl (Nat.le_of_ble_eq_true rfl) rfl (fun rv w9 hq => ?_)
      obtain ⟨rfl, rfl⟩ := hq
      refine z_ws [(a_t_read, zI J 243 v9), (a_t, .inr (8, [.int (zi c_t_refusal), .int (zi c_t_high), .int (zi c_t_wide), .ref a_t_now, .ref a_t_trial, .ref a_t_diary, .int (zi c_t_acts), .int (zi c_t_next), .ref a_t_kept, .ref a_t_isKept, .ref a_t_script, .int (zi c_t_scriptSize), .int (zi q16.2), .ref a_t_read, .int (zi q13.1), .int (zi c_t_readWide), .ref a_t_wanted, .ref a_t_level, .ref a_t_chosen, .ref a_t_best])), (a_t_script, zI J 120 f_t_script)] rfl ?_
      refine z_putfield (pc' := 75) (C := RX9) (T := TX9) (N := 20) (ty := .int) 1 15 [(a_t_read, zI J 243 v9), (a_t, .inr (8, [.int (zi c_t_refusal), .int (zi c_t_high), .int (zi c_t_wide), .ref a_t_now, .ref a_t_trial, .ref a_t_diary, .int (zi c_t_acts), .int (zi c_t_next), .ref a_t_kept, .ref a_t_isKept, .ref a_t_script, .int (zi c_t_scriptSize), .int (zi q16.2), .ref a_t_read, .int (zi q13.1), .int (zi q16.1), .ref a_t_wanted, .ref a_t_level, .ref a_t_chosen, .ref a_t_best])), (a_t_script, zI J 120 f_t_script)] tyX9 tyX9_ok nmX9 dX9_readText_72 iX9_readText_X9 rfl rfl (by decide) mX9_readText_f97 rfl (by decide +kernel) rfl rfl (Nat.le_of_ble_eq_true rfl) rfl rfl rfl ?_
      refine z_aload_n (pc' := 76) 0 dX9_readText_75 rfl rfl rfl ?_
      refine z_getfield (pc' := 79) (C := RX9) (T := TX9) (N := 20) 1 13 dX9_readText_76 iX9_readText_X9 rfl rfl (by decide) mX9_readText_f36 rfl rfl ?_
      refine z_sipush (pc' := 82) dX9_readText_79 (by decide) rfl ?_
      refine z_aload_n (pc' := 83) 0 dX9_readText_82 rfl rfl rfl ?_
      refine z_getfield (pc' := 86) (C := RX9) (T := TX9) (N := 20) 1 15 dX9_readText_83 iX9_readText_X9 rfl rfl (by decide) mX9_readText_f97 rfl rfl ?_
      refine z_bipush (pc' := 88) dX9_readText_86 (by decide) rfl ?_
      have g18 := zkr_p hsh
      replace hsh := zkr_k hsh
      refine z_icmp_ne (pc' := 91) (tgt := 96) dX9_readText_88 (by decide) g18 (by decide) rfl (fun q => ?_) (fun q => ?_)
      · replace hsh := zif_f q hsh
        refine z_aload_n (pc' := 97) 0 dX9_readText_96 rfl rfl rfl ?_
        refine z_iconst (pc' := 98) dX9_readText_97 rfl ?_
        refine z_bipush (pc' := 100) dX9_readText_98 (by decide) rfl ?_
        obtain ⟨q19, h20, hsh⟩ := zbind hsh
        refine z_callV (pc' := 103) (C := RX9) (As := [.int (zi (1 : Int)), .int (zi (9 : Int))]) (rest := [.int (zi (240 : Int)), .ref a_t_read]) (wr := [(a_t_read, zI J 243 v9)]) 2 (zc_X9_digit l D J F (a_t := a_t) (a_t_now := a_t_now) (a_t_trial := a_t_trial) (a_t_diary := a_t_diary) (a_t_kept := a_t_kept) (a_t_isKept := a_t_isKept) (a_t_script := a_t_script) (a_t_read := a_t_read) (a_t_wanted := a_t_wanted) (a_t_level := a_t_level) (a_t_chosen := a_t_chosen) (a_t_best := a_t_best) (c_t_refusal := c_t_refusal) (c_t_high := c_t_high) (c_t_wide := c_t_wide) (c_t_acts := c_t_acts) (c_t_next := c_t_next) (c_t_scriptSize := c_t_scriptSize) (c_t_spot := q16.2) (c_t_readHigh := q13.1) (c_t_readWide := q16.1) (f_t_script := f_t_script) (p0 := (1 : Int)) (p1 := (9 : Int))  q19 h20) dX9_readText_100 gX9_readText_X9_digit rfl rfl rfl (by decide +kernel) ⟨Nat.le_of_ble_eq_true rfl, Nat.le_of_ble_eq_true rfl⟩ ⟨Nat.le_of_ble_eq_true rfl, Nat.le_of_ble_eq_true rfl⟩ (z_spl_of [1, 2, 0] rfl rfl) rfl rfl rfl rfl (Nat.le_of_ble_eq_true rfl) rfl (fun rv w9 hq => ?_)
        obtain ⟨rfl, rfl⟩ := hq
        refine z_ws [(a_t_read, zI J 243 v9), (a_t, .inr (8, [.int (zi c_t_refusal), .int (zi c_t_high), .int (zi c_t_wide), .ref a_t_now, .ref a_t_trial, .ref a_t_diary, .int (zi c_t_acts), .int (zi c_t_next), .ref a_t_kept, .ref a_t_isKept, .ref a_t_script, .int (zi c_t_scriptSize), .int (zi q19.2), .ref a_t_read, .int (zi q13.1), .int (zi q16.1), .ref a_t_wanted, .ref a_t_level, .ref a_t_chosen, .ref a_t_best])), (a_t_script, zI J 120 f_t_script)] rfl ?_
        refine z_iastore (pc' := 104) 0 [(a_t_read, zI J 243 (va_up v9 ((240 : Int)).toNat q19.1)), (a_t, .inr (8, [.int (zi c_t_refusal), .int (zi c_t_high), .int (zi c_t_wide), .ref a_t_now, .ref a_t_trial, .ref a_t_diary, .int (zi c_t_acts), .int (zi c_t_next), .ref a_t_kept, .ref a_t_isKept, .ref a_t_script, .int (zi c_t_scriptSize), .int (zi q19.2), .ref a_t_read, .int (zi q13.1), .int (zi q16.1), .ref a_t_wanted, .ref a_t_level, .ref a_t_chosen, .ref a_t_best])), (a_t_script, zI J 120 f_t_script)] dX9_readText_103 rfl (by decide) (by decide) rfl rfl ?_
        refine z_aload_n (pc' := 105) 0 dX9_readText_104 rfl rfl rfl ?_
        refine z_getfield (pc' := 108) (C := RX9) (T := TX9) (N := 20) 1 13 dX9_readText_105 iX9_readText_X9 rfl rfl (by decide) mX9_readText_f36 rfl rfl ?_
        refine z_sipush (pc' := 111) dX9_readText_108 (by decide) rfl ?_
        refine z_iaload (pc' := 112) 0 dX9_readText_111 rfl (by decide) (by decide) rfl ?_
        refine z_bipush (pc' := 114) dX9_readText_112 (by decide) rfl ?_
        have g21 := zkr_p hsh
        replace hsh := zkr_k hsh
        refine z_icmp_ne (pc' := 117) (tgt := 122) dX9_readText_114 (by decide) g21 (by decide) rfl (fun q => ?_) (fun q => ?_)
        · replace hsh := zif_f q hsh
          refine z_iconst (pc' := 123) dX9_readText_122 rfl ?_
          refine z_istore_n (pc' := 124) [(1, .int (zi (0 : Int))), (0, .ref a_t)] dX9_readText_123 rfl (by decide) rfl rfl ?_
          refine z_perm [(a_t, .inr (8, [.int (zi c_t_refusal), .int (zi c_t_high), .int (zi c_t_wide), .ref a_t_now, .ref a_t_trial, .ref a_t_diary, .int (zi c_t_acts), .int (zi c_t_next), .ref a_t_kept, .ref a_t_isKept, .ref a_t_script, .int (zi c_t_scriptSize), .int (zi q19.2), .ref a_t_read, .int (zi q13.1), .int (zi q16.1), .ref a_t_wanted, .ref a_t_level, .ref a_t_chosen, .ref a_t_best])), (a_t_script, zI J 120 f_t_script), (a_t_read, zI J 243 (va_up v9 ((240 : Int)).toNat q19.1))] [(0, .ref a_t), (1, .int (zi (0 : Int)))] [1, 2, 0] [1, 0] rfl rfl rfl ?_
          refine zl_X9_readText_L124 (F := F) (hk := fun v34 v35 v36 hsh => ?_) _ _ _ _ hsh
          refine z_aload_n (pc' := 157) 0 dX9_readText_156 rfl rfl rfl ?_
          refine z_getfield (pc' := 160) (C := RX9) (T := TX9) (N := 20) 0 12 dX9_readText_157 iX9_readText_X9 rfl rfl (by decide) mX9_readText_f81 rfl rfl ?_
          refine z_aload_n (pc' := 161) 0 dX9_readText_160 rfl rfl rfl ?_
          refine z_getfield (pc' := 164) (C := RX9) (T := TX9) (N := 20) 0 11 dX9_readText_161 iX9_readText_X9 rfl rfl (by decide) mX9_readText_f74 rfl rfl ?_
          have g37 := zkr_p hsh
          replace hsh := zkr_k hsh
          have g38 := zkr_p hsh
          replace hsh := zkr_k hsh
          refine z_icmp_ne (pc' := 167) (tgt := 172) dX9_readText_164 (by decide) g37 g38 rfl (fun q => ?_) (fun q => ?_)
          · replace hsh := zif_f q hsh
            refine z_aload_n (pc' := 173) 0 dX9_readText_172 rfl rfl rfl ?_
            refine z_getfield (pc' := 176) (C := RX9) (T := TX9) (N := 20) 0 12 dX9_readText_173 iX9_readText_X9 rfl rfl (by decide) mX9_readText_f81 rfl rfl ?_
            cases hsh
            exact z_iret rfl dX9_readText_176 ⟨rfl, rfl⟩
          · replace hsh := zif_t q hsh
            refine z_bipush (pc' := 169) dX9_readText_167 (by decide) rfl ?_
            refine z_goto (tgt := 176) dX9_readText_169 (by decide) ?_
            cases hsh
            exact z_iret rfl dX9_readText_176 ⟨rfl, rfl⟩
        · replace hsh := zif_t q hsh
          refine z_aload_n (pc' := 118) 0 dX9_readText_117 rfl rfl rfl ?_
          refine z_getfield (pc' := 121) (C := RX9) (T := TX9) (N := 20) 1 12 dX9_readText_118 iX9_readText_X9 rfl rfl (by decide) mX9_readText_f81 rfl rfl ?_
          refine z_perm [(a_t, .inr (8, [.int (zi c_t_refusal), .int (zi c_t_high), .int (zi c_t_wide), .ref a_t_now, .ref a_t_trial, .ref a_t_diary, .int (zi c_t_acts), .int (zi c_t_next), .ref a_t_kept, .ref a_t_isKept, .ref a_t_script, .int (zi c_t_scriptSize), .int (zi q19.2), .ref a_t_read, .int (zi q13.1), .int (zi q16.1), .ref a_t_wanted, .ref a_t_level, .ref a_t_chosen, .ref a_t_best])), (a_t_script, zI J 120 f_t_script), (a_t_read, zI J 243 (va_up v9 ((240 : Int)).toNat q19.1))] [(0, .ref a_t)] [1, 2, 0] [0] rfl rfl rfl ?_
          cases hsh
          exact z_iret rfl dX9_readText_121 ⟨rfl, rfl⟩
      · replace hsh := zif_t q hsh
        refine z_bipush (pc' := 93) dX9_readText_91 (by decide) rfl ?_
        refine z_goto (tgt := 103) dX9_readText_93 (by decide) ?_
        refine z_iastore (pc' := 104) 0 [(a_t_read, zI J 243 (va_up v9 ((240 : Int)).toNat (-9 : Int))), (a_t, .inr (8, [.int (zi c_t_refusal), .int (zi c_t_high), .int (zi c_t_wide), .ref a_t_now, .ref a_t_trial, .ref a_t_diary, .int (zi c_t_acts), .int (zi c_t_next), .ref a_t_kept, .ref a_t_isKept, .ref a_t_script, .int (zi c_t_scriptSize), .int (zi q16.2), .ref a_t_read, .int (zi q13.1), .int (zi q16.1), .ref a_t_wanted, .ref a_t_level, .ref a_t_chosen, .ref a_t_best])), (a_t_script, zI J 120 f_t_script)] dX9_readText_103 rfl (by decide) (by decide) rfl rfl ?_
        refine z_aload_n (pc' := 105) 0 dX9_readText_104 rfl rfl rfl ?_
        refine z_getfield (pc' := 108) (C := RX9) (T := TX9) (N := 20) 1 13 dX9_readText_105 iX9_readText_X9 rfl rfl (by decide) mX9_readText_f36 rfl rfl ?_
        refine z_sipush (pc' := 111) dX9_readText_108 (by decide) rfl ?_
        refine z_iaload (pc' := 112) 0 dX9_readText_111 rfl (by decide) (by decide) rfl ?_
        refine z_bipush (pc' := 114) dX9_readText_112 (by decide) rfl ?_
        have g39 := zkr_p hsh
        replace hsh := zkr_k hsh
        refine z_icmp_ne (pc' := 117) (tgt := 122) dX9_readText_114 (by decide) g39 (by decide) rfl (fun q => ?_) (fun q => ?_)
        · replace hsh := zif_f q hsh
          refine z_iconst (pc' := 123) dX9_readText_122 rfl ?_
          refine z_istore_n (pc' := 124) [(1, .int (zi (0 : Int))), (0, .ref a_t)] dX9_readText_123 rfl (by decide) rfl rfl ?_
          refine z_perm [(a_t, .inr (8, [.int (zi c_t_refusal), .int (zi c_t_high), .int (zi c_t_wide), .ref a_t_now, .ref a_t_trial, .ref a_t_diary, .int (zi c_t_acts), .int (zi c_t_next), .ref a_t_kept, .ref a_t_isKept, .ref a_t_script, .int (zi c_t_scriptSize), .int (zi q16.2), .ref a_t_read, .int (zi q13.1), .int (zi q16.1), .ref a_t_wanted, .ref a_t_level, .ref a_t_chosen, .ref a_t_best])), (a_t_script, zI J 120 f_t_script), (a_t_read, zI J 243 (va_up v9 ((240 : Int)).toNat (-9 : Int)))] [(0, .ref a_t), (1, .int (zi (0 : Int)))] [1, 2, 0] [1, 0] rfl rfl rfl ?_
          refine zl_X9_readText_L124_2 (F := F) (hk := fun v52 v53 v54 hsh => ?_) _ _ _ _ hsh
          refine z_aload_n (pc' := 157) 0 dX9_readText_156 rfl rfl rfl ?_
          refine z_getfield (pc' := 160) (C := RX9) (T := TX9) (N := 20) 0 12 dX9_readText_157 iX9_readText_X9 rfl rfl (by decide) mX9_readText_f81 rfl rfl ?_
          refine z_aload_n (pc' := 161) 0 dX9_readText_160 rfl rfl rfl ?_
          refine z_getfield (pc' := 164) (C := RX9) (T := TX9) (N := 20) 0 11 dX9_readText_161 iX9_readText_X9 rfl rfl (by decide) mX9_readText_f74 rfl rfl ?_
          have g55 := zkr_p hsh
          replace hsh := zkr_k hsh
          have g56 := zkr_p hsh
          replace hsh := zkr_k hsh
          refine z_icmp_ne (pc' := 167) (tgt := 172) dX9_readText_164 (by decide) g55 g56 rfl (fun q => ?_) (fun q => ?_)
          · replace hsh := zif_f q hsh
            refine z_aload_n (pc' := 173) 0 dX9_readText_172 rfl rfl rfl ?_
            refine z_getfield (pc' := 176) (C := RX9) (T := TX9) (N := 20) 0 12 dX9_readText_173 iX9_readText_X9 rfl rfl (by decide) mX9_readText_f81 rfl rfl ?_
            cases hsh
            exact z_iret rfl dX9_readText_176 ⟨rfl, rfl⟩
          · replace hsh := zif_t q hsh
            refine z_bipush (pc' := 169) dX9_readText_167 (by decide) rfl ?_
            refine z_goto (tgt := 176) dX9_readText_169 (by decide) ?_
            cases hsh
            exact z_iret rfl dX9_readText_176 ⟨rfl, rfl⟩
        · replace hsh := zif_t q hsh
          refine z_aload_n (pc' := 118) 0 dX9_readText_117 rfl rfl rfl ?_
          refine z_getfield (pc' := 121) (C := RX9) (T := TX9) (N := 20) 1 12 dX9_readText_118 iX9_readText_X9 rfl rfl (by decide) mX9_readText_f81 rfl rfl ?_
          refine z_perm [(a_t, .inr (8, [.int (zi c_t_refusal), .int (zi c_t_high), .int (zi c_t_wide), .ref a_t_now, .ref a_t_trial, .ref a_t_diary, .int (zi c_t_acts), .int (zi c_t_next), .ref a_t_kept, .ref a_t_isKept, .ref a_t_script, .int (zi c_t_scriptSize), .int (zi q16.2), .ref a_t_read, .int (zi q13.1), .int (zi q16.1), .ref a_t_wanted, .ref a_t_level, .ref a_t_chosen, .ref a_t_best])), (a_t_script, zI J 120 f_t_script), (a_t_read, zI J 243 (va_up v9 ((240 : Int)).toNat (-9 : Int)))] [(0, .ref a_t)] [1, 2, 0] [0] rfl rfl rfl ?_
          cases hsh
          exact z_iret rfl dX9_readText_121 ⟨rfl, rfl⟩
    · replace hsh := zif_t q hsh
      refine z_bipush (pc' := 63) dX9_readText_61 (by decide) rfl ?_
      refine z_goto (tgt := 72) dX9_readText_63 (by decide) ?_
      refine z_putfield (pc' := 75) (C := RX9) (T := TX9) (N := 20) (ty := .int) 1 15 [(a_t_read, zI J 243 v9), (a_t, .inr (8, [.int (zi c_t_refusal), .int (zi c_t_high), .int (zi c_t_wide), .ref a_t_now, .ref a_t_trial, .ref a_t_diary, .int (zi c_t_acts), .int (zi c_t_next), .ref a_t_kept, .ref a_t_isKept, .ref a_t_script, .int (zi c_t_scriptSize), .int (zi q13.2), .ref a_t_read, .int (zi q13.1), .int (zi (-9 : Int)), .ref a_t_wanted, .ref a_t_level, .ref a_t_chosen, .ref a_t_best])), (a_t_script, zI J 120 f_t_script)] tyX9 tyX9_ok nmX9 dX9_readText_72 iX9_readText_X9 rfl rfl (by decide) mX9_readText_f97 rfl (by decide +kernel) rfl rfl (Nat.le_of_ble_eq_true rfl) rfl rfl rfl ?_
      refine z_aload_n (pc' := 76) 0 dX9_readText_75 rfl rfl rfl ?_
      refine z_getfield (pc' := 79) (C := RX9) (T := TX9) (N := 20) 1 13 dX9_readText_76 iX9_readText_X9 rfl rfl (by decide) mX9_readText_f36 rfl rfl ?_
      refine z_sipush (pc' := 82) dX9_readText_79 (by decide) rfl ?_
      refine z_aload_n (pc' := 83) 0 dX9_readText_82 rfl rfl rfl ?_
      refine z_getfield (pc' := 86) (C := RX9) (T := TX9) (N := 20) 1 15 dX9_readText_83 iX9_readText_X9 rfl rfl (by decide) mX9_readText_f97 rfl rfl ?_
      refine z_bipush (pc' := 88) dX9_readText_86 (by decide) rfl ?_
      refine z_icmp_ne (pc' := 91) (tgt := 96) dX9_readText_88 (by decide) (by decide) (by decide) rfl (fun q => ?_) (fun q => ?_)
      · replace hsh := zif_f q hsh
        refine z_aload_n (pc' := 97) 0 dX9_readText_96 rfl rfl rfl ?_
        refine z_iconst (pc' := 98) dX9_readText_97 rfl ?_
        refine z_bipush (pc' := 100) dX9_readText_98 (by decide) rfl ?_
        obtain ⟨q57, h58, hsh⟩ := zbind hsh
        refine z_callV (pc' := 103) (C := RX9) (As := [.int (zi (1 : Int)), .int (zi (9 : Int))]) (rest := [.int (zi (240 : Int)), .ref a_t_read]) (wr := [(a_t_read, zI J 243 v9)]) 2 (zc_X9_digit l D J F (a_t := a_t) (a_t_now := a_t_now) (a_t_trial := a_t_trial) (a_t_diary := a_t_diary) (a_t_kept := a_t_kept) (a_t_isKept := a_t_isKept) (a_t_script := a_t_script) (a_t_read := a_t_read) (a_t_wanted := a_t_wanted) (a_t_level := a_t_level) (a_t_chosen := a_t_chosen) (a_t_best := a_t_best) (c_t_refusal := c_t_refusal) (c_t_high := c_t_high) (c_t_wide := c_t_wide) (c_t_acts := c_t_acts) (c_t_next := c_t_next) (c_t_scriptSize := c_t_scriptSize) (c_t_spot := q13.2) (c_t_readHigh := q13.1) (c_t_readWide := (-9 : Int)) (f_t_script := f_t_script) (p0 := (1 : Int)) (p1 := (9 : Int))  q57 h58) dX9_readText_100 gX9_readText_X9_digit rfl rfl rfl (by decide +kernel) ⟨Nat.le_of_ble_eq_true rfl, Nat.le_of_ble_eq_true rfl⟩ ⟨Nat.le_of_ble_eq_true rfl, Nat.le_of_ble_eq_true rfl⟩ (z_spl_of [1, 2, 0] rfl rfl) rfl rfl rfl rfl (Nat.le_of_ble_eq_true rfl) rfl (fun rv w9 hq => ?_)
        obtain ⟨rfl, rfl⟩ := hq
        refine z_ws [(a_t_read, zI J 243 v9), (a_t, .inr (8, [.int (zi c_t_refusal), .int (zi c_t_high), .int (zi c_t_wide), .ref a_t_now, .ref a_t_trial, .ref a_t_diary, .int (zi c_t_acts), .int (zi c_t_next), .ref a_t_kept, .ref a_t_isKept, .ref a_t_script, .int (zi c_t_scriptSize), .int (zi q57.2), .ref a_t_read, .int (zi q13.1), .int (zi (-9 : Int)), .ref a_t_wanted, .ref a_t_level, .ref a_t_chosen, .ref a_t_best])), (a_t_script, zI J 120 f_t_script)] rfl ?_
        refine z_iastore (pc' := 104) 0 [(a_t_read, zI J 243 (va_up v9 ((240 : Int)).toNat q57.1)), (a_t, .inr (8, [.int (zi c_t_refusal), .int (zi c_t_high), .int (zi c_t_wide), .ref a_t_now, .ref a_t_trial, .ref a_t_diary, .int (zi c_t_acts), .int (zi c_t_next), .ref a_t_kept, .ref a_t_isKept, .ref a_t_script, .int (zi c_t_scriptSize), .int (zi q57.2), .ref a_t_read, .int (zi q13.1), .int (zi (-9 : Int)), .ref a_t_wanted, .ref a_t_level, .ref a_t_chosen, .ref a_t_best])), (a_t_script, zI J 120 f_t_script)] dX9_readText_103 rfl (by decide) (by decide) rfl rfl ?_
        refine z_aload_n (pc' := 105) 0 dX9_readText_104 rfl rfl rfl ?_
        refine z_getfield (pc' := 108) (C := RX9) (T := TX9) (N := 20) 1 13 dX9_readText_105 iX9_readText_X9 rfl rfl (by decide) mX9_readText_f36 rfl rfl ?_
        refine z_sipush (pc' := 111) dX9_readText_108 (by decide) rfl ?_
        refine z_iaload (pc' := 112) 0 dX9_readText_111 rfl (by decide) (by decide) rfl ?_
        refine z_bipush (pc' := 114) dX9_readText_112 (by decide) rfl ?_
        have g59 := zkr_p hsh
        replace hsh := zkr_k hsh
        refine z_icmp_ne (pc' := 117) (tgt := 122) dX9_readText_114 (by decide) g59 (by decide) rfl (fun q => ?_) (fun q => ?_)
        · replace hsh := zif_f q hsh
          refine z_iconst (pc' := 123) dX9_readText_122 rfl ?_
          refine z_istore_n (pc' := 124) [(1, .int (zi (0 : Int))), (0, .ref a_t)] dX9_readText_123 rfl (by decide) rfl rfl ?_
          refine z_perm [(a_t, .inr (8, [.int (zi c_t_refusal), .int (zi c_t_high), .int (zi c_t_wide), .ref a_t_now, .ref a_t_trial, .ref a_t_diary, .int (zi c_t_acts), .int (zi c_t_next), .ref a_t_kept, .ref a_t_isKept, .ref a_t_script, .int (zi c_t_scriptSize), .int (zi q57.2), .ref a_t_read, .int (zi q13.1), .int (zi (-9 : Int)), .ref a_t_wanted, .ref a_t_level, .ref a_t_chosen, .ref a_t_best])), (a_t_script, zI J 120 f_t_script), (a_t_read, zI J 243 (va_up v9 ((240 : Int)).toNat q57.1))] [(0, .ref a_t), (1, .int (zi (0 : Int)))] [1, 2, 0] [1, 0] rfl rfl rfl ?_
          refine zl_X9_readText_L124_3 (F := F) (hk := fun v72 v73 v74 hsh => ?_) _ _ _ _ hsh
          refine z_aload_n (pc' := 157) 0 dX9_readText_156 rfl rfl rfl ?_
          refine z_getfield (pc' := 160) (C := RX9) (T := TX9) (N := 20) 0 12 dX9_readText_157 iX9_readText_X9 rfl rfl (by decide) mX9_readText_f81 rfl rfl ?_
          refine z_aload_n (pc' := 161) 0 dX9_readText_160 rfl rfl rfl ?_
          refine z_getfield (pc' := 164) (C := RX9) (T := TX9) (N := 20) 0 11 dX9_readText_161 iX9_readText_X9 rfl rfl (by decide) mX9_readText_f74 rfl rfl ?_
          have g75 := zkr_p hsh
          replace hsh := zkr_k hsh
          have g76 := zkr_p hsh
          replace hsh := zkr_k hsh
          refine z_icmp_ne (pc' := 167) (tgt := 172) dX9_readText_164 (by decide) g75 g76 rfl (fun q => ?_) (fun q => ?_)
          · replace hsh := zif_f q hsh
            refine z_aload_n (pc' := 173) 0 dX9_readText_172 rfl rfl rfl ?_
            refine z_getfield (pc' := 176) (C := RX9) (T := TX9) (N := 20) 0 12 dX9_readText_173 iX9_readText_X9 rfl rfl (by decide) mX9_readText_f81 rfl rfl ?_
            cases hsh
            exact z_iret rfl dX9_readText_176 ⟨rfl, rfl⟩
          · replace hsh := zif_t q hsh
            refine z_bipush (pc' := 169) dX9_readText_167 (by decide) rfl ?_
            refine z_goto (tgt := 176) dX9_readText_169 (by decide) ?_
            cases hsh
            exact z_iret rfl dX9_readText_176 ⟨rfl, rfl⟩
        · replace hsh := zif_t q hsh
          refine z_aload_n (pc' := 118) 0 dX9_readText_117 rfl rfl rfl ?_
          refine z_getfield (pc' := 121) (C := RX9) (T := TX9) (N := 20) 1 12 dX9_readText_118 iX9_readText_X9 rfl rfl (by decide) mX9_readText_f81 rfl rfl ?_
          refine z_perm [(a_t, .inr (8, [.int (zi c_t_refusal), .int (zi c_t_high), .int (zi c_t_wide), .ref a_t_now, .ref a_t_trial, .ref a_t_diary, .int (zi c_t_acts), .int (zi c_t_next), .ref a_t_kept, .ref a_t_isKept, .ref a_t_script, .int (zi c_t_scriptSize), .int (zi q57.2), .ref a_t_read, .int (zi q13.1), .int (zi (-9 : Int)), .ref a_t_wanted, .ref a_t_level, .ref a_t_chosen, .ref a_t_best])), (a_t_script, zI J 120 f_t_script), (a_t_read, zI J 243 (va_up v9 ((240 : Int)).toNat q57.1))] [(0, .ref a_t)] [1, 2, 0] [0] rfl rfl rfl ?_
          cases hsh
          exact z_iret rfl dX9_readText_121 ⟨rfl, rfl⟩
      · replace hsh := zif_t q hsh
        refine z_bipush (pc' := 93) dX9_readText_91 (by decide) rfl ?_
        refine z_goto (tgt := 103) dX9_readText_93 (by decide) ?_
        refine z_iastore (pc' := 104) 0 [(a_t_read, zI J 243 (va_up v9 ((240 : Int)).toNat (-9 : Int))), (a_t, .inr (8, [.int (zi c_t_refusal), .int (zi c_t_high), .int (zi c_t_wide), .ref a_t_now, .ref a_t_trial, .ref a_t_diary, .int (zi c_t_acts), .int (zi c_t_next), .ref a_t_kept, .ref a_t_isKept, .ref a_t_script, .int (zi c_t_scriptSize), .int (zi q13.2), .ref a_t_read, .int (zi q13.1), .int (zi (-9 : Int)), .ref a_t_wanted, .ref a_t_level, .ref a_t_chosen, .ref a_t_best])), (a_t_script, zI J 120 f_t_script)] dX9_readText_103 rfl (by decide) (by decide) rfl rfl ?_
        refine z_aload_n (pc' := 105) 0 dX9_readText_104 rfl rfl rfl ?_
        refine z_getfield (pc' := 108) (C := RX9) (T := TX9) (N := 20) 1 13 dX9_readText_105 iX9_readText_X9 rfl rfl (by decide) mX9_readText_f36 rfl rfl ?_
        refine z_sipush (pc' := 111) dX9_readText_108 (by decide) rfl ?_
        refine z_iaload (pc' := 112) 0 dX9_readText_111 rfl (by decide) (by decide) rfl ?_
        refine z_bipush (pc' := 114) dX9_readText_112 (by decide) rfl ?_
        have g77 := zkr_p hsh
        replace hsh := zkr_k hsh
        refine z_icmp_ne (pc' := 117) (tgt := 122) dX9_readText_114 (by decide) g77 (by decide) rfl (fun q => ?_) (fun q => ?_)
        · replace hsh := zif_f q hsh
          refine z_iconst (pc' := 123) dX9_readText_122 rfl ?_
          refine z_istore_n (pc' := 124) [(1, .int (zi (0 : Int))), (0, .ref a_t)] dX9_readText_123 rfl (by decide) rfl rfl ?_
          refine z_perm [(a_t, .inr (8, [.int (zi c_t_refusal), .int (zi c_t_high), .int (zi c_t_wide), .ref a_t_now, .ref a_t_trial, .ref a_t_diary, .int (zi c_t_acts), .int (zi c_t_next), .ref a_t_kept, .ref a_t_isKept, .ref a_t_script, .int (zi c_t_scriptSize), .int (zi q13.2), .ref a_t_read, .int (zi q13.1), .int (zi (-9 : Int)), .ref a_t_wanted, .ref a_t_level, .ref a_t_chosen, .ref a_t_best])), (a_t_script, zI J 120 f_t_script), (a_t_read, zI J 243 (va_up v9 ((240 : Int)).toNat (-9 : Int)))] [(0, .ref a_t), (1, .int (zi (0 : Int)))] [1, 2, 0] [1, 0] rfl rfl rfl ?_
          refine zl_X9_readText_L124_4 (F := F) (hk := fun v90 v91 v92 hsh => ?_) _ _ _ _ hsh
          refine z_aload_n (pc' := 157) 0 dX9_readText_156 rfl rfl rfl ?_
          refine z_getfield (pc' := 160) (C := RX9) (T := TX9) (N := 20) 0 12 dX9_readText_157 iX9_readText_X9 rfl rfl (by decide) mX9_readText_f81 rfl rfl ?_
          refine z_aload_n (pc' := 161) 0 dX9_readText_160 rfl rfl rfl ?_
          refine z_getfield (pc' := 164) (C := RX9) (T := TX9) (N := 20) 0 11 dX9_readText_161 iX9_readText_X9 rfl rfl (by decide) mX9_readText_f74 rfl rfl ?_
          have g93 := zkr_p hsh
          replace hsh := zkr_k hsh
          have g94 := zkr_p hsh
          replace hsh := zkr_k hsh
          refine z_icmp_ne (pc' := 167) (tgt := 172) dX9_readText_164 (by decide) g93 g94 rfl (fun q => ?_) (fun q => ?_)
          · replace hsh := zif_f q hsh
            refine z_aload_n (pc' := 173) 0 dX9_readText_172 rfl rfl rfl ?_
            refine z_getfield (pc' := 176) (C := RX9) (T := TX9) (N := 20) 0 12 dX9_readText_173 iX9_readText_X9 rfl rfl (by decide) mX9_readText_f81 rfl rfl ?_
            cases hsh
            exact z_iret rfl dX9_readText_176 ⟨rfl, rfl⟩
          · replace hsh := zif_t q hsh
            refine z_bipush (pc' := 169) dX9_readText_167 (by decide) rfl ?_
            refine z_goto (tgt := 176) dX9_readText_169 (by decide) ?_
            cases hsh
            exact z_iret rfl dX9_readText_176 ⟨rfl, rfl⟩
        · replace hsh := zif_t q hsh
          refine z_aload_n (pc' := 118) 0 dX9_readText_117 rfl rfl rfl ?_
          refine z_getfield (pc' := 121) (C := RX9) (T := TX9) (N := 20) 1 12 dX9_readText_118 iX9_readText_X9 rfl rfl (by decide) mX9_readText_f81 rfl rfl ?_
          refine z_perm [(a_t, .inr (8, [.int (zi c_t_refusal), .int (zi c_t_high), .int (zi c_t_wide), .ref a_t_now, .ref a_t_trial, .ref a_t_diary, .int (zi c_t_acts), .int (zi c_t_next), .ref a_t_kept, .ref a_t_isKept, .ref a_t_script, .int (zi c_t_scriptSize), .int (zi q13.2), .ref a_t_read, .int (zi q13.1), .int (zi (-9 : Int)), .ref a_t_wanted, .ref a_t_level, .ref a_t_chosen, .ref a_t_best])), (a_t_script, zI J 120 f_t_script), (a_t_read, zI J 243 (va_up v9 ((240 : Int)).toNat (-9 : Int)))] [(0, .ref a_t)] [1, 2, 0] [0] rfl rfl rfl ?_
          cases hsh
          exact z_iret rfl dX9_readText_121 ⟨rfl, rfl⟩
  · replace hsh := zif_t q hsh
    refine z_aload_n (pc' := 37) 0 dX9_readText_36 rfl rfl rfl ?_
    refine z_getfield (pc' := 40) (C := RX9) (T := TX9) (N := 20) 1 12 dX9_readText_37 iX9_readText_X9 rfl rfl (by decide) mX9_readText_f81 rfl rfl ?_
    refine z_perm [(a_t, .inr (8, [.int (zi c_t_refusal), .int (zi c_t_high), .int (zi c_t_wide), .ref a_t_now, .ref a_t_trial, .ref a_t_diary, .int (zi c_t_acts), .int (zi c_t_next), .ref a_t_kept, .ref a_t_isKept, .ref a_t_script, .int (zi c_t_scriptSize), .int (zi q10.2), .ref a_t_read, .int (zi c_t_readHigh), .int (zi c_t_readWide), .ref a_t_wanted, .ref a_t_level, .ref a_t_chosen, .ref a_t_best])), (a_t_script, zI J 120 f_t_script), (a_t_read, zI J 243 v9)] [(0, .ref a_t)] [1, 2, 0] [0] rfl rfl rfl ?_
    cases hsh
    exact z_iret rfl dX9_readText_40 ⟨rfl, rfl⟩
def sh_X9_errorPosition (F : Nat) (c_t_scriptSize : Int) (c_t_readHigh : Int) (c_t_readWide : Int) (f_t_script : Nat → Int) (f_t_read : Nat → Int) : Option (Int × Int × Int × Int × Int × (Nat → Int)) := (sh_X9_readText F c_t_scriptSize c_t_readHigh c_t_readWide f_t_script f_t_read).bind (fun (q1 : Int × Int × Int × Int × (Nat → Int)) => some (q1.1, (0 : Int), q1.2.1, q1.2.2.1, q1.2.2.2.1, q1.2.2.2.2))
theorem mX9_errorPosition_f51 : Cond.fieldLink RX9 51 (TX9 0).1 (TX9 0).2.1 (TX9 0).2.2.1 ∈ wsX9_errorPosition := List.mem_of_getElem? (i := 1) rfl
theorem iX9_errorPosition_X9 : ∀ w ∈ wsX90, w ∈ wsX9_errorPosition := fun _ h => (List.mem_cons_of_mem _ (List.mem_append_right _ h))
set_option maxRecDepth 100000 in
set_option maxHeartbeats 4000000 in
theorem zc_X9_errorPosition (l : Launch) (D : va_G) (J : Nat → ClassId) (F : Nat) (a_t : Nat) (a_t_now : Nat) (a_t_trial : Nat) (a_t_diary : Nat) (a_t_kept : Nat) (a_t_isKept : Nat) (a_t_script : Nat) (a_t_read : Nat) (a_t_wanted : Nat) (a_t_level : Nat) (a_t_chosen : Nat) (a_t_best : Nat) (c_t_refusal : Int) (c_t_high : Int) (c_t_wide : Int) (c_t_acts : Int) (c_t_next : Int) (c_t_scriptSize : Int) (c_t_spot : Int) (c_t_readHigh : Int) (c_t_readWide : Int) (f_t_script : Nat → Int) (f_t_read : Nat → Int) (res : Int × Int × Int × Int × Int × (Nat → Int)) (hsh : sh_X9_errorPosition F c_t_scriptSize c_t_readHigh c_t_readWide f_t_script f_t_read = some res) : ZM l D J yX9_errorPosition wsX9_errorPosition ({ frames := 5, cells := 0, slots := 0, locals := 114 } : Room) 0 0 [.ref a_t] [(a_t, .inr (8, [.int (zi c_t_refusal), .int (zi c_t_high), .int (zi c_t_wide), .ref a_t_now, .ref a_t_trial, .ref a_t_diary, .int (zi c_t_acts), .int (zi c_t_next), .ref a_t_kept, .ref a_t_isKept, .ref a_t_script, .int (zi c_t_scriptSize), .int (zi c_t_spot), .ref a_t_read, .int (zi c_t_readHigh), .int (zi c_t_readWide), .ref a_t_wanted, .ref a_t_level, .ref a_t_chosen, .ref a_t_best])), (a_t_script, zI J 120 f_t_script), (a_t_read, zI J 243 f_t_read)] (fun rv w9 => rv = some (.int (zi res.1)) ∧ w9 = [(a_t, .inr (8, [.int (zi res.2.1), .int (zi c_t_high), .int (zi c_t_wide), .ref a_t_now, .ref a_t_trial, .ref a_t_diary, .int (zi c_t_acts), .int (zi c_t_next), .ref a_t_kept, .ref a_t_isKept, .ref a_t_script, .int (zi c_t_scriptSize), .int (zi res.2.2.1), .ref a_t_read, .int (zi res.2.2.2.1), .int (zi res.2.2.2.2.1), .ref a_t_wanted, .ref a_t_level, .ref a_t_chosen, .ref a_t_best])), (a_t_script, zI J 120 f_t_script), (a_t_read, zI J 243 res.2.2.2.2.2)]) := by
  refine z_ofZ (cc := cX9_errorPosition) (maxL := 1) (ret := (some .int)) 0 0 (by decide) rfl (Nat.le_of_ble_eq_true rfl) [(0, .ref a_t)] rfl ?_
  intro p e s m args below meth c A
  unfold sh_X9_errorPosition at hsh
  refine z_aload_n (pc' := 1) 0 dX9_errorPosition_0 rfl rfl rfl ?_
  refine z_iconst (pc' := 2) dX9_errorPosition_1 rfl ?_
  refine z_putfield (pc' := 5) (C := RX9) (T := TX9) (N := 20) (ty := .int) 0 0 [(a_t, .inr (8, [.int (zi (0 : Int)), .int (zi c_t_high), .int (zi c_t_wide), .ref a_t_now, .ref a_t_trial, .ref a_t_diary, .int (zi c_t_acts), .int (zi c_t_next), .ref a_t_kept, .ref a_t_isKept, .ref a_t_script, .int (zi c_t_scriptSize), .int (zi c_t_spot), .ref a_t_read, .int (zi c_t_readHigh), .int (zi c_t_readWide), .ref a_t_wanted, .ref a_t_level, .ref a_t_chosen, .ref a_t_best])), (a_t_script, zI J 120 f_t_script), (a_t_read, zI J 243 f_t_read)] tyX9 tyX9_ok nmX9 dX9_errorPosition_2 iX9_errorPosition_X9 rfl rfl (by decide) mX9_errorPosition_f51 rfl (by decide +kernel) rfl rfl (Nat.le_of_ble_eq_true rfl) rfl rfl rfl ?_
  refine z_aload_n (pc' := 6) 0 dX9_errorPosition_5 rfl rfl rfl ?_
  obtain ⟨q1, h2, hsh⟩ := zbind hsh
  refine z_callV (pc' := 9) (C := RX9) (As := []) (rest := []) (wr := []) 0 (zc_X9_readText l D J F (a_t := a_t) (a_t_now := a_t_now) (a_t_trial := a_t_trial) (a_t_diary := a_t_diary) (a_t_kept := a_t_kept) (a_t_isKept := a_t_isKept) (a_t_script := a_t_script) (a_t_read := a_t_read) (a_t_wanted := a_t_wanted) (a_t_level := a_t_level) (a_t_chosen := a_t_chosen) (a_t_best := a_t_best) (c_t_refusal := (0 : Int)) (c_t_high := c_t_high) (c_t_wide := c_t_wide) (c_t_acts := c_t_acts) (c_t_next := c_t_next) (c_t_scriptSize := c_t_scriptSize) (c_t_spot := c_t_spot) (c_t_readHigh := c_t_readHigh) (c_t_readWide := c_t_readWide) (f_t_script := f_t_script) (f_t_read := f_t_read)  q1 h2) dX9_errorPosition_6 gX9_errorPosition_X9_readText rfl rfl rfl (by decide +kernel) ⟨Nat.le_of_ble_eq_true rfl, Nat.le_of_ble_eq_true rfl⟩ ⟨Nat.le_of_ble_eq_true rfl, Nat.le_of_ble_eq_true rfl⟩ (z_spl_of [0, 1, 2] rfl rfl) rfl rfl rfl rfl (Nat.le_of_ble_eq_true rfl) rfl (fun rv w9 hq => ?_)
  obtain ⟨rfl, rfl⟩ := hq
  refine z_ws [(a_t, .inr (8, [.int (zi (0 : Int)), .int (zi c_t_high), .int (zi c_t_wide), .ref a_t_now, .ref a_t_trial, .ref a_t_diary, .int (zi c_t_acts), .int (zi c_t_next), .ref a_t_kept, .ref a_t_isKept, .ref a_t_script, .int (zi c_t_scriptSize), .int (zi q1.2.1), .ref a_t_read, .int (zi q1.2.2.1), .int (zi q1.2.2.2.1), .ref a_t_wanted, .ref a_t_level, .ref a_t_chosen, .ref a_t_best])), (a_t_script, zI J 120 f_t_script), (a_t_read, zI J 243 q1.2.2.2.2)] rfl ?_
  cases hsh
  exact z_iret rfl dX9_errorPosition_9 ⟨rfl, rfl⟩
def sh_X9_load (F : Nat) (c_t_high : Int) (c_t_wide : Int) (c_t_acts : Int) (c_t_scriptSize : Int) (c_t_readHigh : Int) (c_t_readWide : Int) (f_t_now : Nat → Int) (f_t_isKept : Nat → Int) (f_t_script : Nat → Int) (f_t_read : Nat → Int) : Option (Int × Int × Int × Int × Int × Int × Int × Int × (Nat → Int) × (Nat → Int) × (Nat → Int)) := (sh_X9_readText F c_t_scriptSize c_t_readHigh c_t_readWide f_t_script f_t_read).bind (fun (q1 : Int × Int × Int × Int × (Nat → Int)) => zkr q1.1 (if q1.1 = (-9 : Int) then (sh_X9_refused F (0 : Int)).bind (fun (q11 : Int × Int) => zkr q11.1 (if q11.1 = (0 : Int) then (sh_X9_copy F q1.2.2.2.2 f_t_now 243 243 (0 : Int) (0 : Int)).bind (fun (q14 : (Nat → Int)) => (sh_X9_points F q1.2.2.1 q1.2.2.2.1).bind (fun (q16 : Int) => some (q16, q11.2, q1.2.2.1, q1.2.2.2.1, (0 : Int), q1.2.1, q1.2.2.1, q1.2.2.2.1, q14, (va_up (va_up f_t_isKept ((0 : Int)).toNat (0 : Int)) ((1 : Int)).toNat (0 : Int)), q1.2.2.2.2))) else some ((0 : Int), q11.2, c_t_high, c_t_wide, c_t_acts, q1.2.1, q1.2.2.1, q1.2.2.2.1, f_t_now, f_t_isKept, q1.2.2.2.2))) else (sh_X9_refused F (1 : Int)).bind (fun (q4 : Int × Int) => zkr q4.1 (if q4.1 = (0 : Int) then (sh_X9_copy F q1.2.2.2.2 f_t_now 243 243 (0 : Int) (0 : Int)).bind (fun (q7 : (Nat → Int)) => (sh_X9_points F q1.2.2.1 q1.2.2.2.1).bind (fun (q9 : Int) => some (q9, q4.2, q1.2.2.1, q1.2.2.2.1, (0 : Int), q1.2.1, q1.2.2.1, q1.2.2.2.1, q7, (va_up (va_up f_t_isKept ((0 : Int)).toNat (0 : Int)) ((1 : Int)).toNat (0 : Int)), q1.2.2.2.2))) else some ((0 : Int), q4.2, c_t_high, c_t_wide, c_t_acts, q1.2.1, q1.2.2.1, q1.2.2.2.1, f_t_now, f_t_isKept, q1.2.2.2.2)))))
theorem mX9_load_f94 : Cond.fieldLink RX9 94 (TX9 14).1 (TX9 14).2.1 (TX9 14).2.2.1 ∈ wsX9_load := List.mem_of_getElem? (i := 1) rfl
theorem iX9_load_X9 : ∀ w ∈ wsX90, w ∈ wsX9_load := fun _ h => (List.mem_cons_of_mem _ (List.mem_append_right _ h))
theorem mX9_load_f7 : Cond.fieldLink RX9 7 (TX9 1).1 (TX9 1).2.1 (TX9 1).2.2.1 ∈ wsX9_load := List.mem_of_getElem? (i := 2) rfl
theorem mX9_load_f97 : Cond.fieldLink RX9 97 (TX9 15).1 (TX9 15).2.1 (TX9 15).2.2.1 ∈ wsX9_load := List.mem_of_getElem? (i := 3) rfl
theorem mX9_load_f13 : Cond.fieldLink RX9 13 (TX9 2).1 (TX9 2).2.1 (TX9 2).2.2.1 ∈ wsX9_load := List.mem_of_getElem? (i := 4) rfl
theorem mX9_load_f36 : Cond.fieldLink RX9 36 (TX9 13).1 (TX9 13).2.1 (TX9 13).2.2.1 ∈ wsX9_load := List.mem_of_getElem? (i := 5) rfl
theorem mX9_load_f16 : Cond.fieldLink RX9 16 (TX9 3).1 (TX9 3).2.1 (TX9 3).2.2.1 ∈ wsX9_load := List.mem_of_getElem? (i := 6) rfl
theorem mX9_load_f69 : Cond.fieldLink RX9 69 (TX9 6).1 (TX9 6).2.1 (TX9 6).2.2.1 ∈ wsX9_load := List.mem_of_getElem? (i := 7) rfl
theorem mX9_load_f29 : Cond.fieldLink RX9 29 (TX9 9).1 (TX9 9).2.1 (TX9 9).2.2.1 ∈ wsX9_load := List.mem_of_getElem? (i := 8) rfl
set_option maxRecDepth 100000 in
set_option maxHeartbeats 4000000 in
theorem zc_X9_load (l : Launch) (D : va_G) (J : Nat → ClassId) (F : Nat) (a_t : Nat) (a_t_now : Nat) (a_t_trial : Nat) (a_t_diary : Nat) (a_t_kept : Nat) (a_t_isKept : Nat) (a_t_script : Nat) (a_t_read : Nat) (a_t_wanted : Nat) (a_t_level : Nat) (a_t_chosen : Nat) (a_t_best : Nat) (c_t_refusal : Int) (c_t_high : Int) (c_t_wide : Int) (c_t_acts : Int) (c_t_next : Int) (c_t_scriptSize : Int) (c_t_spot : Int) (c_t_readHigh : Int) (c_t_readWide : Int) (f_t_now : Nat → Int) (f_t_isKept : Nat → Int) (f_t_script : Nat → Int) (f_t_read : Nat → Int) (res : Int × Int × Int × Int × Int × Int × Int × Int × (Nat → Int) × (Nat → Int) × (Nat → Int)) (hsh : sh_X9_load F c_t_high c_t_wide c_t_acts c_t_scriptSize c_t_readHigh c_t_readWide f_t_now f_t_isKept f_t_script f_t_read = some res) : ZM l D J yX9_load wsX9_load ({ frames := 5, cells := 0, slots := 0, locals := 114 } : Room) 0 0 [.ref a_t] [(a_t, .inr (8, [.int (zi c_t_refusal), .int (zi c_t_high), .int (zi c_t_wide), .ref a_t_now, .ref a_t_trial, .ref a_t_diary, .int (zi c_t_acts), .int (zi c_t_next), .ref a_t_kept, .ref a_t_isKept, .ref a_t_script, .int (zi c_t_scriptSize), .int (zi c_t_spot), .ref a_t_read, .int (zi c_t_readHigh), .int (zi c_t_readWide), .ref a_t_wanted, .ref a_t_level, .ref a_t_chosen, .ref a_t_best])), (a_t_now, zI J 243 f_t_now), (a_t_isKept, zB J 2 f_t_isKept), (a_t_script, zI J 120 f_t_script), (a_t_read, zI J 243 f_t_read)] (fun rv w9 => rv = some (.int (zi res.1)) ∧ w9 = [(a_t, .inr (8, [.int (zi res.2.1), .int (zi res.2.2.1), .int (zi res.2.2.2.1), .ref a_t_now, .ref a_t_trial, .ref a_t_diary, .int (zi res.2.2.2.2.1), .int (zi c_t_next), .ref a_t_kept, .ref a_t_isKept, .ref a_t_script, .int (zi c_t_scriptSize), .int (zi res.2.2.2.2.2.1), .ref a_t_read, .int (zi res.2.2.2.2.2.2.1), .int (zi res.2.2.2.2.2.2.2.1), .ref a_t_wanted, .ref a_t_level, .ref a_t_chosen, .ref a_t_best])), (a_t_now, zI J 243 res.2.2.2.2.2.2.2.2.1), (a_t_isKept, zB J 2 res.2.2.2.2.2.2.2.2.2.1), (a_t_script, zI J 120 f_t_script), (a_t_read, zI J 243 res.2.2.2.2.2.2.2.2.2.2)]) := by
  refine z_ofZ (cc := cX9_load) (maxL := 1) (ret := (some .int)) 0 0 (by decide) rfl (Nat.le_of_ble_eq_true rfl) [(0, .ref a_t)] rfl ?_
  intro p e s m args below meth c A
  unfold sh_X9_load at hsh
  refine z_aload_n (pc' := 1) 0 dX9_load_0 rfl rfl rfl ?_
  refine z_aload_n (pc' := 2) 0 dX9_load_1 rfl rfl rfl ?_
  obtain ⟨q1, h2, hsh⟩ := zbind hsh
  refine z_callV (pc' := 5) (C := RX9) (As := []) (rest := [.ref a_t]) (wr := [(a_t_now, zI J 243 f_t_now), (a_t_isKept, zB J 2 f_t_isKept)]) 0 (zc_X9_readText l D J F (a_t := a_t) (a_t_now := a_t_now) (a_t_trial := a_t_trial) (a_t_diary := a_t_diary) (a_t_kept := a_t_kept) (a_t_isKept := a_t_isKept) (a_t_script := a_t_script) (a_t_read := a_t_read) (a_t_wanted := a_t_wanted) (a_t_level := a_t_level) (a_t_chosen := a_t_chosen) (a_t_best := a_t_best) (c_t_refusal := c_t_refusal) (c_t_high := c_t_high) (c_t_wide := c_t_wide) (c_t_acts := c_t_acts) (c_t_next := c_t_next) (c_t_scriptSize := c_t_scriptSize) (c_t_spot := c_t_spot) (c_t_readHigh := c_t_readHigh) (c_t_readWide := c_t_readWide) (f_t_script := f_t_script) (f_t_read := f_t_read)  q1 h2) dX9_load_2 gX9_load_X9_readText rfl rfl rfl (by decide +kernel) ⟨Nat.le_of_ble_eq_true rfl, Nat.le_of_ble_eq_true rfl⟩ ⟨Nat.le_of_ble_eq_true rfl, Nat.le_of_ble_eq_true rfl⟩ (z_spl_of [0, 3, 4, 1, 2] rfl rfl) rfl rfl rfl rfl (Nat.le_of_ble_eq_true rfl) rfl (fun rv w9 hq => ?_)
  obtain ⟨rfl, rfl⟩ := hq
  refine z_ws [(a_t_now, zI J 243 f_t_now), (a_t_isKept, zB J 2 f_t_isKept), (a_t, .inr (8, [.int (zi c_t_refusal), .int (zi c_t_high), .int (zi c_t_wide), .ref a_t_now, .ref a_t_trial, .ref a_t_diary, .int (zi c_t_acts), .int (zi c_t_next), .ref a_t_kept, .ref a_t_isKept, .ref a_t_script, .int (zi c_t_scriptSize), .int (zi q1.2.1), .ref a_t_read, .int (zi q1.2.2.1), .int (zi q1.2.2.2.1), .ref a_t_wanted, .ref a_t_level, .ref a_t_chosen, .ref a_t_best])), (a_t_script, zI J 120 f_t_script), (a_t_read, zI J 243 q1.2.2.2.2)] rfl ?_
  refine z_bipush (pc' := 7) dX9_load_5 (by decide) rfl ?_
  have g3 := zkr_p hsh
  replace hsh := zkr_k hsh
  refine z_icmp_ne (pc' := 10) (tgt := 14) dX9_load_7 (by decide) g3 (by decide) rfl (fun q => ?_) (fun q => ?_)
  · replace hsh := zif_f q hsh
    refine z_iconst (pc' := 15) dX9_load_14 rfl ?_
    obtain ⟨q4, h5, hsh⟩ := zbind hsh
    refine z_callV (pc' := 18) (C := RX9) (As := [.int (zi (1 : Int))]) (rest := []) (wr := [(a_t_now, zI J 243 f_t_now), (a_t_isKept, zB J 2 f_t_isKept), (a_t_script, zI J 120 f_t_script), (a_t_read, zI J 243 q1.2.2.2.2)]) 1 (zc_X9_refused l D J F (a_t := a_t) (a_t_now := a_t_now) (a_t_trial := a_t_trial) (a_t_diary := a_t_diary) (a_t_kept := a_t_kept) (a_t_isKept := a_t_isKept) (a_t_script := a_t_script) (a_t_read := a_t_read) (a_t_wanted := a_t_wanted) (a_t_level := a_t_level) (a_t_chosen := a_t_chosen) (a_t_best := a_t_best) (c_t_refusal := c_t_refusal) (c_t_high := c_t_high) (c_t_wide := c_t_wide) (c_t_acts := c_t_acts) (c_t_next := c_t_next) (c_t_scriptSize := c_t_scriptSize) (c_t_spot := q1.2.1) (c_t_readHigh := q1.2.2.1) (c_t_readWide := q1.2.2.2.1) (p0 := (1 : Int))  q4 h5) dX9_load_15 gX9_load_X9_refused rfl rfl rfl (by decide +kernel) ⟨Nat.le_of_ble_eq_true rfl, Nat.le_of_ble_eq_true rfl⟩ ⟨Nat.le_of_ble_eq_true rfl, Nat.le_of_ble_eq_true rfl⟩ (z_spl_of [2, 0, 1, 3, 4] rfl rfl) rfl rfl rfl rfl (Nat.le_of_ble_eq_true rfl) rfl (fun rv w9 hq => ?_)
    obtain ⟨rfl, rfl⟩ := hq
    refine z_ws [(a_t_now, zI J 243 f_t_now), (a_t_isKept, zB J 2 f_t_isKept), (a_t_script, zI J 120 f_t_script), (a_t_read, zI J 243 q1.2.2.2.2), (a_t, .inr (8, [.int (zi q4.2), .int (zi c_t_high), .int (zi c_t_wide), .ref a_t_now, .ref a_t_trial, .ref a_t_diary, .int (zi c_t_acts), .int (zi c_t_next), .ref a_t_kept, .ref a_t_isKept, .ref a_t_script, .int (zi c_t_scriptSize), .int (zi q1.2.1), .ref a_t_read, .int (zi q1.2.2.1), .int (zi q1.2.2.2.1), .ref a_t_wanted, .ref a_t_level, .ref a_t_chosen, .ref a_t_best]))] rfl ?_
    have g6 := zkr_p hsh
    replace hsh := zkr_k hsh
    refine z_if_eq (pc' := 21) (tgt := 23) dX9_load_18 (by decide) g6 rfl (fun q => ?_) (fun q => ?_)
    · replace hsh := zif_t q hsh
      refine z_aload_n (pc' := 24) 0 dX9_load_23 rfl rfl rfl ?_
      refine z_aload_n (pc' := 25) 0 dX9_load_24 rfl rfl rfl ?_
      refine z_getfield (pc' := 28) (C := RX9) (T := TX9) (N := 20) 4 14 dX9_load_25 iX9_load_X9 rfl rfl (by decide) mX9_load_f94 rfl rfl ?_
      refine z_putfield (pc' := 31) (C := RX9) (T := TX9) (N := 20) (ty := .int) 4 1 [(a_t_now, zI J 243 f_t_now), (a_t_isKept, zB J 2 f_t_isKept), (a_t_script, zI J 120 f_t_script), (a_t_read, zI J 243 q1.2.2.2.2), (a_t, .inr (8, [.int (zi q4.2), .int (zi q1.2.2.1), .int (zi c_t_wide), .ref a_t_now, .ref a_t_trial, .ref a_t_diary, .int (zi c_t_acts), .int (zi c_t_next), .ref a_t_kept, .ref a_t_isKept, .ref a_t_script, .int (zi c_t_scriptSize), .int (zi q1.2.1), .ref a_t_read, .int (zi q1.2.2.1), .int (zi q1.2.2.2.1), .ref a_t_wanted, .ref a_t_level, .ref a_t_chosen, .ref a_t_best]))] tyX9 tyX9_ok nmX9 dX9_load_28 iX9_load_X9 rfl rfl (by decide) mX9_load_f7 rfl (by decide +kernel) rfl rfl (Nat.le_of_ble_eq_true rfl) rfl rfl rfl ?_
      refine z_aload_n (pc' := 32) 0 dX9_load_31 rfl rfl rfl ?_
      refine z_aload_n (pc' := 33) 0 dX9_load_32 rfl rfl rfl ?_
      refine z_getfield (pc' := 36) (C := RX9) (T := TX9) (N := 20) 4 15 dX9_load_33 iX9_load_X9 rfl rfl (by decide) mX9_load_f97 rfl rfl ?_
      refine z_putfield (pc' := 39) (C := RX9) (T := TX9) (N := 20) (ty := .int) 4 2 [(a_t_now, zI J 243 f_t_now), (a_t_isKept, zB J 2 f_t_isKept), (a_t_script, zI J 120 f_t_script), (a_t_read, zI J 243 q1.2.2.2.2), (a_t, .inr (8, [.int (zi q4.2), .int (zi q1.2.2.1), .int (zi q1.2.2.2.1), .ref a_t_now, .ref a_t_trial, .ref a_t_diary, .int (zi c_t_acts), .int (zi c_t_next), .ref a_t_kept, .ref a_t_isKept, .ref a_t_script, .int (zi c_t_scriptSize), .int (zi q1.2.1), .ref a_t_read, .int (zi q1.2.2.1), .int (zi q1.2.2.2.1), .ref a_t_wanted, .ref a_t_level, .ref a_t_chosen, .ref a_t_best]))] tyX9 tyX9_ok nmX9 dX9_load_36 iX9_load_X9 rfl rfl (by decide) mX9_load_f13 rfl (by decide +kernel) rfl rfl (Nat.le_of_ble_eq_true rfl) rfl rfl rfl ?_
      refine z_aload_n (pc' := 40) 0 dX9_load_39 rfl rfl rfl ?_
      refine z_getfield (pc' := 43) (C := RX9) (T := TX9) (N := 20) 4 13 dX9_load_40 iX9_load_X9 rfl rfl (by decide) mX9_load_f36 rfl rfl ?_
      refine z_iconst (pc' := 44) dX9_load_43 rfl ?_
      refine z_aload_n (pc' := 45) 0 dX9_load_44 rfl rfl rfl ?_
      refine z_getfield (pc' := 48) (C := RX9) (T := TX9) (N := 20) 4 3 dX9_load_45 iX9_load_X9 rfl rfl (by decide) mX9_load_f16 rfl rfl ?_
      refine z_iconst (pc' := 49) dX9_load_48 rfl ?_
      obtain ⟨q7, h8, hsh⟩ := zbind hsh
      refine z_callS (pc' := 52) (As := [.ref a_t_read, .int (zi (0 : Int)), .ref a_t_now, .int (zi (0 : Int))]) (rest := []) (wr := [(a_t_isKept, zB J 2 f_t_isKept), (a_t_script, zI J 120 f_t_script), (a_t, .inr (8, [.int (zi q4.2), .int (zi q1.2.2.1), .int (zi q1.2.2.2.1), .ref a_t_now, .ref a_t_trial, .ref a_t_diary, .int (zi c_t_acts), .int (zi c_t_next), .ref a_t_kept, .ref a_t_isKept, .ref a_t_script, .int (zi c_t_scriptSize), .int (zi q1.2.1), .ref a_t_read, .int (zi q1.2.2.1), .int (zi q1.2.2.2.1), .ref a_t_wanted, .ref a_t_level, .ref a_t_chosen, .ref a_t_best]))]) 4 (zc_X9_copy l D J F (a_p0 := a_t_read) (a_p2 := a_t_now) (f_p0 := q1.2.2.2.2) (f_p2 := f_t_now) (n_p0 := 243) (n_p2 := 243) (p1 := (0 : Int)) (p3 := (0 : Int)) (hn_p0 := (by decide)) (hn_p2 := (by decide)) q7 h8) dX9_load_49 gX9_load_X9_copy rfl rfl rfl (by decide +kernel) ⟨Nat.le_of_ble_eq_true rfl, Nat.le_of_ble_eq_true rfl⟩ ⟨Nat.le_of_ble_eq_true rfl, Nat.le_of_ble_eq_true rfl⟩ (z_spl_of [3, 0, 1, 2, 4] rfl rfl) rfl rfl (Nat.le_of_ble_eq_true rfl) rfl (fun rv w9 hq => ?_)
      obtain ⟨rfl, rfl⟩ := hq
      refine z_ws [(a_t_isKept, zB J 2 f_t_isKept), (a_t_script, zI J 120 f_t_script), (a_t, .inr (8, [.int (zi q4.2), .int (zi q1.2.2.1), .int (zi q1.2.2.2.1), .ref a_t_now, .ref a_t_trial, .ref a_t_diary, .int (zi c_t_acts), .int (zi c_t_next), .ref a_t_kept, .ref a_t_isKept, .ref a_t_script, .int (zi c_t_scriptSize), .int (zi q1.2.1), .ref a_t_read, .int (zi q1.2.2.1), .int (zi q1.2.2.2.1), .ref a_t_wanted, .ref a_t_level, .ref a_t_chosen, .ref a_t_best])), (a_t_read, zI J 243 q1.2.2.2.2), (a_t_now, zI J 243 q7)] rfl ?_
      refine z_aload_n (pc' := 53) 0 dX9_load_52 rfl rfl rfl ?_
      refine z_iconst (pc' := 54) dX9_load_53 rfl ?_
      refine z_putfield (pc' := 57) (C := RX9) (T := TX9) (N := 20) (ty := .int) 2 6 [(a_t_isKept, zB J 2 f_t_isKept), (a_t_script, zI J 120 f_t_script), (a_t, .inr (8, [.int (zi q4.2), .int (zi q1.2.2.1), .int (zi q1.2.2.2.1), .ref a_t_now, .ref a_t_trial, .ref a_t_diary, .int (zi (0 : Int)), .int (zi c_t_next), .ref a_t_kept, .ref a_t_isKept, .ref a_t_script, .int (zi c_t_scriptSize), .int (zi q1.2.1), .ref a_t_read, .int (zi q1.2.2.1), .int (zi q1.2.2.2.1), .ref a_t_wanted, .ref a_t_level, .ref a_t_chosen, .ref a_t_best])), (a_t_read, zI J 243 q1.2.2.2.2), (a_t_now, zI J 243 q7)] tyX9 tyX9_ok nmX9 dX9_load_54 iX9_load_X9 rfl rfl (by decide) mX9_load_f69 rfl (by decide +kernel) rfl rfl (Nat.le_of_ble_eq_true rfl) rfl rfl rfl ?_
      refine z_aload_n (pc' := 58) 0 dX9_load_57 rfl rfl rfl ?_
      refine z_getfield (pc' := 61) (C := RX9) (T := TX9) (N := 20) 2 9 dX9_load_58 iX9_load_X9 rfl rfl (by decide) mX9_load_f29 rfl rfl ?_
      refine z_iconst (pc' := 62) dX9_load_61 rfl ?_
      refine z_iconst (pc' := 63) dX9_load_62 rfl ?_
      refine z_bastore (pc' := 64) 0 [(a_t_isKept, zB J 2 (va_up f_t_isKept ((0 : Int)).toNat (0 : Int))), (a_t_script, zI J 120 f_t_script), (a_t, .inr (8, [.int (zi q4.2), .int (zi q1.2.2.1), .int (zi q1.2.2.2.1), .ref a_t_now, .ref a_t_trial, .ref a_t_diary, .int (zi (0 : Int)), .int (zi c_t_next), .ref a_t_kept, .ref a_t_isKept, .ref a_t_script, .int (zi c_t_scriptSize), .int (zi q1.2.1), .ref a_t_read, .int (zi q1.2.2.1), .int (zi q1.2.2.2.1), .ref a_t_wanted, .ref a_t_level, .ref a_t_chosen, .ref a_t_best])), (a_t_read, zI J 243 q1.2.2.2.2), (a_t_now, zI J 243 q7)] dX9_load_63 rfl (by decide) (by decide) (by decide) rfl rfl ?_
      refine z_aload_n (pc' := 65) 0 dX9_load_64 rfl rfl rfl ?_
      refine z_getfield (pc' := 68) (C := RX9) (T := TX9) (N := 20) 2 9 dX9_load_65 iX9_load_X9 rfl rfl (by decide) mX9_load_f29 rfl rfl ?_
      refine z_iconst (pc' := 69) dX9_load_68 rfl ?_
      refine z_iconst (pc' := 70) dX9_load_69 rfl ?_
      refine z_bastore (pc' := 71) 0 [(a_t_isKept, zB J 2 (va_up (va_up f_t_isKept ((0 : Int)).toNat (0 : Int)) ((1 : Int)).toNat (0 : Int))), (a_t_script, zI J 120 f_t_script), (a_t, .inr (8, [.int (zi q4.2), .int (zi q1.2.2.1), .int (zi q1.2.2.2.1), .ref a_t_now, .ref a_t_trial, .ref a_t_diary, .int (zi (0 : Int)), .int (zi c_t_next), .ref a_t_kept, .ref a_t_isKept, .ref a_t_script, .int (zi c_t_scriptSize), .int (zi q1.2.1), .ref a_t_read, .int (zi q1.2.2.1), .int (zi q1.2.2.2.1), .ref a_t_wanted, .ref a_t_level, .ref a_t_chosen, .ref a_t_best])), (a_t_read, zI J 243 q1.2.2.2.2), (a_t_now, zI J 243 q7)] dX9_load_70 rfl (by decide) (by decide) (by decide) rfl rfl ?_
      refine z_aload_n (pc' := 72) 0 dX9_load_71 rfl rfl rfl ?_
      obtain ⟨q9, h10, hsh⟩ := zbind hsh
      refine z_callV (pc' := 75) (C := RX9) (As := []) (rest := []) (wr := [(a_t_isKept, zB J 2 (va_up (va_up f_t_isKept ((0 : Int)).toNat (0 : Int)) ((1 : Int)).toNat (0 : Int))), (a_t_script, zI J 120 f_t_script), (a_t_read, zI J 243 q1.2.2.2.2), (a_t_now, zI J 243 q7)]) 0 (zc_X9_points l D J F (a_t := a_t) (a_t_now := a_t_now) (a_t_trial := a_t_trial) (a_t_diary := a_t_diary) (a_t_kept := a_t_kept) (a_t_isKept := a_t_isKept) (a_t_script := a_t_script) (a_t_read := a_t_read) (a_t_wanted := a_t_wanted) (a_t_level := a_t_level) (a_t_chosen := a_t_chosen) (a_t_best := a_t_best) (c_t_refusal := q4.2) (c_t_high := q1.2.2.1) (c_t_wide := q1.2.2.2.1) (c_t_acts := (0 : Int)) (c_t_next := c_t_next) (c_t_scriptSize := c_t_scriptSize) (c_t_spot := q1.2.1) (c_t_readHigh := q1.2.2.1) (c_t_readWide := q1.2.2.2.1)  q9 h10) dX9_load_72 gX9_load_X9_points rfl rfl rfl (by decide +kernel) ⟨Nat.le_of_ble_eq_true rfl, Nat.le_of_ble_eq_true rfl⟩ ⟨Nat.le_of_ble_eq_true rfl, Nat.le_of_ble_eq_true rfl⟩ (z_spl_of [2, 0, 1, 3, 4] rfl rfl) rfl rfl rfl rfl (Nat.le_of_ble_eq_true rfl) rfl (fun rv w9 hq => ?_)
      obtain ⟨rfl, rfl⟩ := hq
      refine z_ws [(a_t_isKept, zB J 2 (va_up (va_up f_t_isKept ((0 : Int)).toNat (0 : Int)) ((1 : Int)).toNat (0 : Int))), (a_t_script, zI J 120 f_t_script), (a_t_read, zI J 243 q1.2.2.2.2), (a_t_now, zI J 243 q7), (a_t, .inr (8, [.int (zi q4.2), .int (zi q1.2.2.1), .int (zi q1.2.2.2.1), .ref a_t_now, .ref a_t_trial, .ref a_t_diary, .int (zi (0 : Int)), .int (zi c_t_next), .ref a_t_kept, .ref a_t_isKept, .ref a_t_script, .int (zi c_t_scriptSize), .int (zi q1.2.1), .ref a_t_read, .int (zi q1.2.2.1), .int (zi q1.2.2.2.1), .ref a_t_wanted, .ref a_t_level, .ref a_t_chosen, .ref a_t_best]))] rfl ?_
      refine z_perm [(a_t, .inr (8, [.int (zi q4.2), .int (zi q1.2.2.1), .int (zi q1.2.2.2.1), .ref a_t_now, .ref a_t_trial, .ref a_t_diary, .int (zi (0 : Int)), .int (zi c_t_next), .ref a_t_kept, .ref a_t_isKept, .ref a_t_script, .int (zi c_t_scriptSize), .int (zi q1.2.1), .ref a_t_read, .int (zi q1.2.2.1), .int (zi q1.2.2.2.1), .ref a_t_wanted, .ref a_t_level, .ref a_t_chosen, .ref a_t_best])), (a_t_now, zI J 243 q7), (a_t_isKept, zB J 2 (va_up (va_up f_t_isKept ((0 : Int)).toNat (0 : Int)) ((1 : Int)).toNat (0 : Int))), (a_t_script, zI J 120 f_t_script), (a_t_read, zI J 243 q1.2.2.2.2)] [(0, .ref a_t)] [4, 3, 0, 1, 2] [0] rfl rfl rfl ?_
      cases hsh
      exact z_iret rfl dX9_load_75 ⟨rfl, rfl⟩
    · replace hsh := zif_f q hsh
      refine z_iconst (pc' := 22) dX9_load_21 rfl ?_
      refine z_perm [(a_t, .inr (8, [.int (zi q4.2), .int (zi c_t_high), .int (zi c_t_wide), .ref a_t_now, .ref a_t_trial, .ref a_t_diary, .int (zi c_t_acts), .int (zi c_t_next), .ref a_t_kept, .ref a_t_isKept, .ref a_t_script, .int (zi c_t_scriptSize), .int (zi q1.2.1), .ref a_t_read, .int (zi q1.2.2.1), .int (zi q1.2.2.2.1), .ref a_t_wanted, .ref a_t_level, .ref a_t_chosen, .ref a_t_best])), (a_t_now, zI J 243 f_t_now), (a_t_isKept, zB J 2 f_t_isKept), (a_t_script, zI J 120 f_t_script), (a_t_read, zI J 243 q1.2.2.2.2)] [(0, .ref a_t)] [4, 0, 1, 2, 3] [0] rfl rfl rfl ?_
      cases hsh
      exact z_iret rfl dX9_load_22 ⟨rfl, rfl⟩
  · replace hsh := zif_t q hsh
    refine z_iconst (pc' := 11) dX9_load_10 rfl ?_
    refine z_goto (tgt := 15) dX9_load_11 (by decide) ?_
    obtain ⟨q11, h12, hsh⟩ := zbind hsh
    refine z_callV (pc' := 18) (C := RX9) (As := [.int (zi (0 : Int))]) (rest := []) (wr := [(a_t_now, zI J 243 f_t_now), (a_t_isKept, zB J 2 f_t_isKept), (a_t_script, zI J 120 f_t_script), (a_t_read, zI J 243 q1.2.2.2.2)]) 1 (zc_X9_refused l D J F (a_t := a_t) (a_t_now := a_t_now) (a_t_trial := a_t_trial) (a_t_diary := a_t_diary) (a_t_kept := a_t_kept) (a_t_isKept := a_t_isKept) (a_t_script := a_t_script) (a_t_read := a_t_read) (a_t_wanted := a_t_wanted) (a_t_level := a_t_level) (a_t_chosen := a_t_chosen) (a_t_best := a_t_best) (c_t_refusal := c_t_refusal) (c_t_high := c_t_high) (c_t_wide := c_t_wide) (c_t_acts := c_t_acts) (c_t_next := c_t_next) (c_t_scriptSize := c_t_scriptSize) (c_t_spot := q1.2.1) (c_t_readHigh := q1.2.2.1) (c_t_readWide := q1.2.2.2.1) (p0 := (0 : Int))  q11 h12) dX9_load_15 gX9_load_X9_refused rfl rfl rfl (by decide +kernel) ⟨Nat.le_of_ble_eq_true rfl, Nat.le_of_ble_eq_true rfl⟩ ⟨Nat.le_of_ble_eq_true rfl, Nat.le_of_ble_eq_true rfl⟩ (z_spl_of [2, 0, 1, 3, 4] rfl rfl) rfl rfl rfl rfl (Nat.le_of_ble_eq_true rfl) rfl (fun rv w9 hq => ?_)
    obtain ⟨rfl, rfl⟩ := hq
    refine z_ws [(a_t_now, zI J 243 f_t_now), (a_t_isKept, zB J 2 f_t_isKept), (a_t_script, zI J 120 f_t_script), (a_t_read, zI J 243 q1.2.2.2.2), (a_t, .inr (8, [.int (zi q11.2), .int (zi c_t_high), .int (zi c_t_wide), .ref a_t_now, .ref a_t_trial, .ref a_t_diary, .int (zi c_t_acts), .int (zi c_t_next), .ref a_t_kept, .ref a_t_isKept, .ref a_t_script, .int (zi c_t_scriptSize), .int (zi q1.2.1), .ref a_t_read, .int (zi q1.2.2.1), .int (zi q1.2.2.2.1), .ref a_t_wanted, .ref a_t_level, .ref a_t_chosen, .ref a_t_best]))] rfl ?_
    have g13 := zkr_p hsh
    replace hsh := zkr_k hsh
    refine z_if_eq (pc' := 21) (tgt := 23) dX9_load_18 (by decide) g13 rfl (fun q => ?_) (fun q => ?_)
    · replace hsh := zif_t q hsh
      refine z_aload_n (pc' := 24) 0 dX9_load_23 rfl rfl rfl ?_
      refine z_aload_n (pc' := 25) 0 dX9_load_24 rfl rfl rfl ?_
      refine z_getfield (pc' := 28) (C := RX9) (T := TX9) (N := 20) 4 14 dX9_load_25 iX9_load_X9 rfl rfl (by decide) mX9_load_f94 rfl rfl ?_
      refine z_putfield (pc' := 31) (C := RX9) (T := TX9) (N := 20) (ty := .int) 4 1 [(a_t_now, zI J 243 f_t_now), (a_t_isKept, zB J 2 f_t_isKept), (a_t_script, zI J 120 f_t_script), (a_t_read, zI J 243 q1.2.2.2.2), (a_t, .inr (8, [.int (zi q11.2), .int (zi q1.2.2.1), .int (zi c_t_wide), .ref a_t_now, .ref a_t_trial, .ref a_t_diary, .int (zi c_t_acts), .int (zi c_t_next), .ref a_t_kept, .ref a_t_isKept, .ref a_t_script, .int (zi c_t_scriptSize), .int (zi q1.2.1), .ref a_t_read, .int (zi q1.2.2.1), .int (zi q1.2.2.2.1), .ref a_t_wanted, .ref a_t_level, .ref a_t_chosen, .ref a_t_best]))] tyX9 tyX9_ok nmX9 dX9_load_28 iX9_load_X9 rfl rfl (by decide) mX9_load_f7 rfl (by decide +kernel) rfl rfl (Nat.le_of_ble_eq_true rfl) rfl rfl rfl ?_
      refine z_aload_n (pc' := 32) 0 dX9_load_31 rfl rfl rfl ?_
      refine z_aload_n (pc' := 33) 0 dX9_load_32 rfl rfl rfl ?_
      refine z_getfield (pc' := 36) (C := RX9) (T := TX9) (N := 20) 4 15 dX9_load_33 iX9_load_X9 rfl rfl (by decide) mX9_load_f97 rfl rfl ?_
      refine z_putfield (pc' := 39) (C := RX9) (T := TX9) (N := 20) (ty := .int) 4 2 [(a_t_now, zI J 243 f_t_now), (a_t_isKept, zB J 2 f_t_isKept), (a_t_script, zI J 120 f_t_script), (a_t_read, zI J 243 q1.2.2.2.2), (a_t, .inr (8, [.int (zi q11.2), .int (zi q1.2.2.1), .int (zi q1.2.2.2.1), .ref a_t_now, .ref a_t_trial, .ref a_t_diary, .int (zi c_t_acts), .int (zi c_t_next), .ref a_t_kept, .ref a_t_isKept, .ref a_t_script, .int (zi c_t_scriptSize), .int (zi q1.2.1), .ref a_t_read, .int (zi q1.2.2.1), .int (zi q1.2.2.2.1), .ref a_t_wanted, .ref a_t_level, .ref a_t_chosen, .ref a_t_best]))] tyX9 tyX9_ok nmX9 dX9_load_36 iX9_load_X9 rfl rfl (by decide) mX9_load_f13 rfl (by decide +kernel) rfl rfl (Nat.le_of_ble_eq_true rfl) rfl rfl rfl ?_
      refine z_aload_n (pc' := 40) 0 dX9_load_39 rfl rfl rfl ?_
      refine z_getfield (pc' := 43) (C := RX9) (T := TX9) (N := 20) 4 13 dX9_load_40 iX9_load_X9 rfl rfl (by decide) mX9_load_f36 rfl rfl ?_
      refine z_iconst (pc' := 44) dX9_load_43 rfl ?_
      refine z_aload_n (pc' := 45) 0 dX9_load_44 rfl rfl rfl ?_
      refine z_getfield (pc' := 48) (C := RX9) (T := TX9) (N := 20) 4 3 dX9_load_45 iX9_load_X9 rfl rfl (by decide) mX9_load_f16 rfl rfl ?_
      refine z_iconst (pc' := 49) dX9_load_48 rfl ?_
      obtain ⟨q14, h15, hsh⟩ := zbind hsh
      refine z_callS (pc' := 52) (As := [.ref a_t_read, .int (zi (0 : Int)), .ref a_t_now, .int (zi (0 : Int))]) (rest := []) (wr := [(a_t_isKept, zB J 2 f_t_isKept), (a_t_script, zI J 120 f_t_script), (a_t, .inr (8, [.int (zi q11.2), .int (zi q1.2.2.1), .int (zi q1.2.2.2.1), .ref a_t_now, .ref a_t_trial, .ref a_t_diary, .int (zi c_t_acts), .int (zi c_t_next), .ref a_t_kept, .ref a_t_isKept, .ref a_t_script, .int (zi c_t_scriptSize), .int (zi q1.2.1), .ref a_t_read, .int (zi q1.2.2.1), .int (zi q1.2.2.2.1), .ref a_t_wanted, .ref a_t_level, .ref a_t_chosen, .ref a_t_best]))]) 4 (zc_X9_copy l D J F (a_p0 := a_t_read) (a_p2 := a_t_now) (f_p0 := q1.2.2.2.2) (f_p2 := f_t_now) (n_p0 := 243) (n_p2 := 243) (p1 := (0 : Int)) (p3 := (0 : Int)) (hn_p0 := (by decide)) (hn_p2 := (by decide)) q14 h15) dX9_load_49 gX9_load_X9_copy rfl rfl rfl (by decide +kernel) ⟨Nat.le_of_ble_eq_true rfl, Nat.le_of_ble_eq_true rfl⟩ ⟨Nat.le_of_ble_eq_true rfl, Nat.le_of_ble_eq_true rfl⟩ (z_spl_of [3, 0, 1, 2, 4] rfl rfl) rfl rfl (Nat.le_of_ble_eq_true rfl) rfl (fun rv w9 hq => ?_)
      obtain ⟨rfl, rfl⟩ := hq
      refine z_ws [(a_t_isKept, zB J 2 f_t_isKept), (a_t_script, zI J 120 f_t_script), (a_t, .inr (8, [.int (zi q11.2), .int (zi q1.2.2.1), .int (zi q1.2.2.2.1), .ref a_t_now, .ref a_t_trial, .ref a_t_diary, .int (zi c_t_acts), .int (zi c_t_next), .ref a_t_kept, .ref a_t_isKept, .ref a_t_script, .int (zi c_t_scriptSize), .int (zi q1.2.1), .ref a_t_read, .int (zi q1.2.2.1), .int (zi q1.2.2.2.1), .ref a_t_wanted, .ref a_t_level, .ref a_t_chosen, .ref a_t_best])), (a_t_read, zI J 243 q1.2.2.2.2), (a_t_now, zI J 243 q14)] rfl ?_
      refine z_aload_n (pc' := 53) 0 dX9_load_52 rfl rfl rfl ?_
      refine z_iconst (pc' := 54) dX9_load_53 rfl ?_
      refine z_putfield (pc' := 57) (C := RX9) (T := TX9) (N := 20) (ty := .int) 2 6 [(a_t_isKept, zB J 2 f_t_isKept), (a_t_script, zI J 120 f_t_script), (a_t, .inr (8, [.int (zi q11.2), .int (zi q1.2.2.1), .int (zi q1.2.2.2.1), .ref a_t_now, .ref a_t_trial, .ref a_t_diary, .int (zi (0 : Int)), .int (zi c_t_next), .ref a_t_kept, .ref a_t_isKept, .ref a_t_script, .int (zi c_t_scriptSize), .int (zi q1.2.1), .ref a_t_read, .int (zi q1.2.2.1), .int (zi q1.2.2.2.1), .ref a_t_wanted, .ref a_t_level, .ref a_t_chosen, .ref a_t_best])), (a_t_read, zI J 243 q1.2.2.2.2), (a_t_now, zI J 243 q14)] tyX9 tyX9_ok nmX9 dX9_load_54 iX9_load_X9 rfl rfl (by decide) mX9_load_f69 rfl (by decide +kernel) rfl rfl (Nat.le_of_ble_eq_true rfl) rfl rfl rfl ?_
      refine z_aload_n (pc' := 58) 0 dX9_load_57 rfl rfl rfl ?_
      refine z_getfield (pc' := 61) (C := RX9) (T := TX9) (N := 20) 2 9 dX9_load_58 iX9_load_X9 rfl rfl (by decide) mX9_load_f29 rfl rfl ?_
      refine z_iconst (pc' := 62) dX9_load_61 rfl ?_
      refine z_iconst (pc' := 63) dX9_load_62 rfl ?_
      refine z_bastore (pc' := 64) 0 [(a_t_isKept, zB J 2 (va_up f_t_isKept ((0 : Int)).toNat (0 : Int))), (a_t_script, zI J 120 f_t_script), (a_t, .inr (8, [.int (zi q11.2), .int (zi q1.2.2.1), .int (zi q1.2.2.2.1), .ref a_t_now, .ref a_t_trial, .ref a_t_diary, .int (zi (0 : Int)), .int (zi c_t_next), .ref a_t_kept, .ref a_t_isKept, .ref a_t_script, .int (zi c_t_scriptSize), .int (zi q1.2.1), .ref a_t_read, .int (zi q1.2.2.1), .int (zi q1.2.2.2.1), .ref a_t_wanted, .ref a_t_level, .ref a_t_chosen, .ref a_t_best])), (a_t_read, zI J 243 q1.2.2.2.2), (a_t_now, zI J 243 q14)] dX9_load_63 rfl (by decide) (by decide) (by decide) rfl rfl ?_
      refine z_aload_n (pc' := 65) 0 dX9_load_64 rfl rfl rfl ?_
      refine z_getfield (pc' := 68) (C := RX9) (T := TX9) (N := 20) 2 9 dX9_load_65 iX9_load_X9 rfl rfl (by decide) mX9_load_f29 rfl rfl ?_
      refine z_iconst (pc' := 69) dX9_load_68 rfl ?_
      refine z_iconst (pc' := 70) dX9_load_69 rfl ?_
      refine z_bastore (pc' := 71) 0 [(a_t_isKept, zB J 2 (va_up (va_up f_t_isKept ((0 : Int)).toNat (0 : Int)) ((1 : Int)).toNat (0 : Int))), (a_t_script, zI J 120 f_t_script), (a_t, .inr (8, [.int (zi q11.2), .int (zi q1.2.2.1), .int (zi q1.2.2.2.1), .ref a_t_now, .ref a_t_trial, .ref a_t_diary, .int (zi (0 : Int)), .int (zi c_t_next), .ref a_t_kept, .ref a_t_isKept, .ref a_t_script, .int (zi c_t_scriptSize), .int (zi q1.2.1), .ref a_t_read, .int (zi q1.2.2.1), .int (zi q1.2.2.2.1), .ref a_t_wanted, .ref a_t_level, .ref a_t_chosen, .ref a_t_best])), (a_t_read, zI J 243 q1.2.2.2.2), (a_t_now, zI J 243 q14)] dX9_load_70 rfl (by decide) (by decide) (by decide) rfl rfl ?_
      refine z_aload_n (pc' := 72) 0 dX9_load_71 rfl rfl rfl ?_
      obtain ⟨q16, h17, hsh⟩ := zbind hsh
      refine z_callV (pc' := 75) (C := RX9) (As := []) (rest := []) (wr := [(a_t_isKept, zB J 2 (va_up (va_up f_t_isKept ((0 : Int)).toNat (0 : Int)) ((1 : Int)).toNat (0 : Int))), (a_t_script, zI J 120 f_t_script), (a_t_read, zI J 243 q1.2.2.2.2), (a_t_now, zI J 243 q14)]) 0 (zc_X9_points l D J F (a_t := a_t) (a_t_now := a_t_now) (a_t_trial := a_t_trial) (a_t_diary := a_t_diary) (a_t_kept := a_t_kept) (a_t_isKept := a_t_isKept) (a_t_script := a_t_script) (a_t_read := a_t_read) (a_t_wanted := a_t_wanted) (a_t_level := a_t_level) (a_t_chosen := a_t_chosen) (a_t_best := a_t_best) (c_t_refusal := q11.2) (c_t_high := q1.2.2.1) (c_t_wide := q1.2.2.2.1) (c_t_acts := (0 : Int)) (c_t_next := c_t_next) (c_t_scriptSize := c_t_scriptSize) (c_t_spot := q1.2.1) (c_t_readHigh := q1.2.2.1) (c_t_readWide := q1.2.2.2.1)  q16 h17) dX9_load_72 gX9_load_X9_points rfl rfl rfl (by decide +kernel) ⟨Nat.le_of_ble_eq_true rfl, Nat.le_of_ble_eq_true rfl⟩ ⟨Nat.le_of_ble_eq_true rfl, Nat.le_of_ble_eq_true rfl⟩ (z_spl_of [2, 0, 1, 3, 4] rfl rfl) rfl rfl rfl rfl (Nat.le_of_ble_eq_true rfl) rfl (fun rv w9 hq => ?_)
      obtain ⟨rfl, rfl⟩ := hq
      refine z_ws [(a_t_isKept, zB J 2 (va_up (va_up f_t_isKept ((0 : Int)).toNat (0 : Int)) ((1 : Int)).toNat (0 : Int))), (a_t_script, zI J 120 f_t_script), (a_t_read, zI J 243 q1.2.2.2.2), (a_t_now, zI J 243 q14), (a_t, .inr (8, [.int (zi q11.2), .int (zi q1.2.2.1), .int (zi q1.2.2.2.1), .ref a_t_now, .ref a_t_trial, .ref a_t_diary, .int (zi (0 : Int)), .int (zi c_t_next), .ref a_t_kept, .ref a_t_isKept, .ref a_t_script, .int (zi c_t_scriptSize), .int (zi q1.2.1), .ref a_t_read, .int (zi q1.2.2.1), .int (zi q1.2.2.2.1), .ref a_t_wanted, .ref a_t_level, .ref a_t_chosen, .ref a_t_best]))] rfl ?_
      refine z_perm [(a_t, .inr (8, [.int (zi q11.2), .int (zi q1.2.2.1), .int (zi q1.2.2.2.1), .ref a_t_now, .ref a_t_trial, .ref a_t_diary, .int (zi (0 : Int)), .int (zi c_t_next), .ref a_t_kept, .ref a_t_isKept, .ref a_t_script, .int (zi c_t_scriptSize), .int (zi q1.2.1), .ref a_t_read, .int (zi q1.2.2.1), .int (zi q1.2.2.2.1), .ref a_t_wanted, .ref a_t_level, .ref a_t_chosen, .ref a_t_best])), (a_t_now, zI J 243 q14), (a_t_isKept, zB J 2 (va_up (va_up f_t_isKept ((0 : Int)).toNat (0 : Int)) ((1 : Int)).toNat (0 : Int))), (a_t_script, zI J 120 f_t_script), (a_t_read, zI J 243 q1.2.2.2.2)] [(0, .ref a_t)] [4, 3, 0, 1, 2] [0] rfl rfl rfl ?_
      cases hsh
      exact z_iret rfl dX9_load_75 ⟨rfl, rfl⟩
    · replace hsh := zif_f q hsh
      refine z_iconst (pc' := 22) dX9_load_21 rfl ?_
      refine z_perm [(a_t, .inr (8, [.int (zi q11.2), .int (zi c_t_high), .int (zi c_t_wide), .ref a_t_now, .ref a_t_trial, .ref a_t_diary, .int (zi c_t_acts), .int (zi c_t_next), .ref a_t_kept, .ref a_t_isKept, .ref a_t_script, .int (zi c_t_scriptSize), .int (zi q1.2.1), .ref a_t_read, .int (zi q1.2.2.1), .int (zi q1.2.2.2.1), .ref a_t_wanted, .ref a_t_level, .ref a_t_chosen, .ref a_t_best])), (a_t_now, zI J 243 f_t_now), (a_t_isKept, zB J 2 f_t_isKept), (a_t_script, zI J 120 f_t_script), (a_t_read, zI J 243 q1.2.2.2.2)] [(0, .ref a_t)] [4, 0, 1, 2, 3] [0] rfl rfl rfl ?_
      cases hsh
      exact z_iret rfl dX9_load_22 ⟨rfl, rfl⟩
def sh_X9_remainingOf_L5 (F : Nat) (n_p0 : Nat) (p1 : Int) (p2 : Int) (f_p0 : Nat → Int) (k : Int → Int → Option (Int)) : Nat → Int → Int → Option (Int)
  | 0, _, _ => none
  | N + 1, v3, v4 => zkx ((p1 + ((15 : Int) * p2)) + (2 : Int)) n_p0 (zkr v4 (zkr (f_p0 (((p1 + ((15 : Int) * p2)) + (2 : Int))).toNat) (if v4 < (f_p0 (((p1 + ((15 : Int) * p2)) + (2 : Int))).toNat) then zkx (((p1 + ((15 : Int) * p2)) + (3 : Int)) + ((2 : Int) * v4)) n_p0 (sh_X9_remainingOf_L5 F n_p0 p1 p2 f_p0 k N (v3 + (f_p0 ((((p1 + ((15 : Int) * p2)) + (3 : Int)) + ((2 : Int) * v4))).toNat)) (v4 + (1 : Int))) else k v3 v4)))
def sh_X9_remainingOf (F : Nat) (f_p0 : Nat → Int) (n_p0 : Nat) (p1 : Int) (p2 : Int) : Option (Int) := sh_X9_remainingOf_L5 F n_p0 p1 p2 f_p0 (fun (v9 : Int) (v10 : Int) => some (v9)) F (0 : Int) (0 : Int)
set_option maxRecDepth 100000 in
set_option maxHeartbeats 4000000 in
theorem zl_X9_remainingOf_L5 {p : Program} {l : Launch} {e : Env} {s : State} {m : MethodId} {args : Array Value} {below : List Frame} {meth : Method} {c : Code} {A : Nat → Prop} {D : va_G} {J : Nat → ClassId} {F : Nat} {n_p0 : Nat} {p1 : Int} {p2 : Int} {f_p0 : Nat → Int} {a_p0 : Nat} {res : Int} (hn_p0 : n_p0 ≤ 2147483647) {k : Int → Int → Option (Int)} (hk : ∀ (v3' : Int) (v4' : Int), k v3' v4' = some res → Z p l e ({ frames := 0, cells := 0, slots := 0, locals := 0 } : Room) s m args below meth c (MQ below (zQ D J A (fun rv w9 => rv = some (.int (zi res)) ∧ w9 = [(a_p0, zI J n_p0 f_p0)])) args s 0 0 A) cX9_remainingOf 5 wsX9_remainingOf RX9 D J A (some .int) (yX9_remainingOf.name, []) 0 0 [(a_p0, zI J n_p0 f_p0)] [(3, .int (zi v3'))] 44 []) : ∀ (N : Nat) (v3 : Int) (v4 : Int), sh_X9_remainingOf_L5 F n_p0 p1 p2 f_p0 k N v3 v4 = some res → Z p l e ({ frames := 0, cells := 0, slots := 0, locals := 0 } : Room) s m args below meth c (MQ below (zQ D J A (fun rv w9 => rv = some (.int (zi res)) ∧ w9 = [(a_p0, zI J n_p0 f_p0)])) args s 0 0 A) cX9_remainingOf 5 wsX9_remainingOf RX9 D J A (some .int) (yX9_remainingOf.name, []) 0 0 [(a_p0, zI J n_p0 f_p0)] [(0, .ref a_p0), (1, .int (zi p1)), (2, .int (zi p2)), (3, .int (zi v3)), (4, .int (zi v4))] 5 [] := by
  intro N
  induction N with
  | zero =>
    intro v3 v4 hsh
    exact absurd hsh (by simp [sh_X9_remainingOf_L5])
  | succ N ih =>
    intro v3 v4 hsh
    rw [sh_X9_remainingOf_L5] at hsh
    refine z_iload (pc' := 7) 4 dX9_remainingOf_5 rfl rfl ?_
    refine z_aload_n (pc' := 8) 0 dX9_remainingOf_7 rfl rfl rfl ?_
    refine z_iload_n (pc' := 9) 1 dX9_remainingOf_8 rfl rfl rfl ?_
    refine z_bipush (pc' := 11) dX9_remainingOf_9 (by decide) rfl ?_
    refine z_iload_n (pc' := 12) 2 dX9_remainingOf_11 rfl rfl rfl ?_
    refine z_imul (pc' := 13) dX9_remainingOf_12 rfl ?_
    refine z_iadd (pc' := 14) dX9_remainingOf_13 rfl ?_
    refine z_iconst (pc' := 15) dX9_remainingOf_14 rfl ?_
    refine z_iadd (pc' := 16) dX9_remainingOf_15 rfl ?_
    have g5 := zkx_p hsh
    replace hsh := zkx_k hsh
    refine z_iaload (pc' := 17) 0 dX9_remainingOf_16 rfl hn_p0 g5 rfl ?_
    have g6 := zkr_p hsh
    replace hsh := zkr_k hsh
    have g7 := zkr_p hsh
    replace hsh := zkr_k hsh
    refine z_icmp_ge (pc' := 20) (tgt := 44) dX9_remainingOf_17 (by decide) g6 g7 rfl (fun q => ?_) (fun q => ?_)
    · replace hsh := zif_f q hsh
      refine z_perm [(a_p0, zI J n_p0 f_p0)] [(3, .int (zi v3))] [0] [3] rfl rfl rfl ?_
      exact hk _ _ hsh
    · replace hsh := zif_t q hsh
      refine z_iload_n (pc' := 21) 3 dX9_remainingOf_20 rfl rfl rfl ?_
      refine z_aload_n (pc' := 22) 0 dX9_remainingOf_21 rfl rfl rfl ?_
      refine z_iload_n (pc' := 23) 1 dX9_remainingOf_22 rfl rfl rfl ?_
      refine z_bipush (pc' := 25) dX9_remainingOf_23 (by decide) rfl ?_
      refine z_iload_n (pc' := 26) 2 dX9_remainingOf_25 rfl rfl rfl ?_
      refine z_imul (pc' := 27) dX9_remainingOf_26 rfl ?_
      refine z_iadd (pc' := 28) dX9_remainingOf_27 rfl ?_
      refine z_iconst (pc' := 29) dX9_remainingOf_28 rfl ?_
      refine z_iadd (pc' := 30) dX9_remainingOf_29 rfl ?_
      refine z_iconst (pc' := 31) dX9_remainingOf_30 rfl ?_
      refine z_iload (pc' := 33) 4 dX9_remainingOf_31 rfl rfl ?_
      refine z_imul (pc' := 34) dX9_remainingOf_33 rfl ?_
      refine z_iadd (pc' := 35) dX9_remainingOf_34 rfl ?_
      have g8 := zkx_p hsh
      replace hsh := zkx_k hsh
      refine z_iaload (pc' := 36) 0 dX9_remainingOf_35 rfl hn_p0 g8 rfl ?_
      refine z_iadd (pc' := 37) dX9_remainingOf_36 rfl ?_
      refine z_istore_n (pc' := 38) [(3, .int (zi (v3 + (f_p0 ((((p1 + ((15 : Int) * p2)) + (3 : Int)) + ((2 : Int) * v4))).toNat)))), (0, .ref a_p0), (1, .int (zi p1)), (2, .int (zi p2)), (4, .int (zi v4))] dX9_remainingOf_37 rfl (by decide) rfl rfl ?_
      refine z_iinc (pc' := 41) [(4, .int (zi (v4 + (1 : Int)))), (3, .int (zi (v3 + (f_p0 ((((p1 + ((15 : Int) * p2)) + (3 : Int)) + ((2 : Int) * v4))).toNat)))), (0, .ref a_p0), (1, .int (zi p1)), (2, .int (zi p2))] 4 dX9_remainingOf_38 rfl (by decide) rfl rfl ?_
      refine z_goto (tgt := 5) dX9_remainingOf_41 (by decide) ?_
      refine z_perm [(a_p0, zI J n_p0 f_p0)] [(0, .ref a_p0), (1, .int (zi p1)), (2, .int (zi p2)), (3, .int (zi (v3 + (f_p0 ((((p1 + ((15 : Int) * p2)) + (3 : Int)) + ((2 : Int) * v4))).toNat)))), (4, .int (zi (v4 + (1 : Int))))] [0] [2, 3, 4, 1, 0] rfl rfl rfl ?_
      exact ih _ _ hsh
set_option maxRecDepth 100000 in
set_option maxHeartbeats 4000000 in
theorem zc_X9_remainingOf (l : Launch) (D : va_G) (J : Nat → ClassId) (F : Nat) (a_p0 : Nat) (f_p0 : Nat → Int) (n_p0 : Nat) (p1 : Int) (p2 : Int) (hn_p0 : n_p0 ≤ 2147483647) (res : Int) (hsh : sh_X9_remainingOf F f_p0 n_p0 p1 p2 = some res) : ZM l D J yX9_remainingOf wsX9_remainingOf ({ frames := 0, cells := 0, slots := 0, locals := 0 } : Room) 0 0 [.ref a_p0, .int (zi p1), .int (zi p2)] [(a_p0, zI J n_p0 f_p0)] (fun rv w9 => rv = some (.int (zi res)) ∧ w9 = [(a_p0, zI J n_p0 f_p0)]) := by
  refine z_ofZ (cc := cX9_remainingOf) (maxL := 5) (ret := (some .int)) 0 0 (by decide) rfl (Nat.le_of_ble_eq_true rfl) [(0, .ref a_p0), (1, .int (zi p1)), (2, .int (zi p2))] rfl ?_
  intro p e s m args below meth c A
  unfold sh_X9_remainingOf at hsh
  refine z_iconst (pc' := 1) dX9_remainingOf_0 rfl ?_
  refine z_istore_n (pc' := 2) [(3, .int (zi (0 : Int))), (0, .ref a_p0), (1, .int (zi p1)), (2, .int (zi p2))] dX9_remainingOf_1 rfl (by decide) rfl rfl ?_
  refine z_iconst (pc' := 3) dX9_remainingOf_2 rfl ?_
  refine z_istore (pc' := 5) [(4, .int (zi (0 : Int))), (3, .int (zi (0 : Int))), (0, .ref a_p0), (1, .int (zi p1)), (2, .int (zi p2))] dX9_remainingOf_3 (by decide) rfl rfl ?_
  refine z_perm [(a_p0, zI J n_p0 f_p0)] [(0, .ref a_p0), (1, .int (zi p1)), (2, .int (zi p2)), (3, .int (zi (0 : Int))), (4, .int (zi (0 : Int)))] [0] [2, 3, 4, 1, 0] rfl rfl rfl ?_
  refine zl_X9_remainingOf_L5 (F := F) (hn_p0 := hn_p0) (hk := fun v9 v10 hsh => ?_) _ _ _ hsh
  refine z_iload_n (pc' := 45) 0 dX9_remainingOf_44 rfl rfl rfl ?_
  cases hsh
  exact z_iret rfl dX9_remainingOf_45 ⟨rfl, rfl⟩
def sh_X9_gradeOf_L6 (F : Nat) (n_p0 : Nat) (p1 : Int) (p2 : Int) (f_p0 : Nat → Int) (k : Int → Int → Option (Int)) : Nat → Int → Int → Option (Int)
  | 0, _, _ => none
  | N + 1, v3, v4 => zkx ((p1 + ((15 : Int) * p2)) + (2 : Int)) n_p0 (zkr v4 (zkr (f_p0 (((p1 + ((15 : Int) * p2)) + (2 : Int))).toNat) (if v4 < (f_p0 (((p1 + ((15 : Int) * p2)) + (2 : Int))).toNat) then zkx (((p1 + ((15 : Int) * p2)) + (3 : Int)) + ((2 : Int) * v4)) n_p0 (zkr v3 (zkr (f_p0 ((((p1 + ((15 : Int) * p2)) + (3 : Int)) + ((2 : Int) * v4))).toNat) (if v3 < (f_p0 ((((p1 + ((15 : Int) * p2)) + (3 : Int)) + ((2 : Int) * v4))).toNat) then zkx ((((p1 + ((15 : Int) * p2)) + (3 : Int)) + ((2 : Int) * v4)) + (1 : Int)) n_p0 (some ((f_p0 (((((p1 + ((15 : Int) * p2)) + (3 : Int)) + ((2 : Int) * v4)) + (1 : Int))).toNat))) else sh_X9_gradeOf_L6 F n_p0 p1 p2 f_p0 k N (v3 - (f_p0 ((((p1 + ((15 : Int) * p2)) + (3 : Int)) + ((2 : Int) * v4))).toNat)) (v4 + (1 : Int))))) else k v3 v4)))
def sh_X9_gradeOf (F : Nat) (f_p0 : Nat → Int) (n_p0 : Nat) (p1 : Int) (p2 : Int) (p3 : Int) : Option (Int) := sh_X9_gradeOf_L6 F n_p0 p1 p2 f_p0 (fun (v12 : Int) (v13 : Int) => some ((-9 : Int))) F p3 (0 : Int)
set_option maxRecDepth 100000 in
set_option maxHeartbeats 4000000 in
theorem zl_X9_gradeOf_L6 {p : Program} {l : Launch} {e : Env} {s : State} {m : MethodId} {args : Array Value} {below : List Frame} {meth : Method} {c : Code} {A : Nat → Prop} {D : va_G} {J : Nat → ClassId} {F : Nat} {n_p0 : Nat} {p1 : Int} {p2 : Int} {f_p0 : Nat → Int} {a_p0 : Nat} {res : Int} (hn_p0 : n_p0 ≤ 2147483647) {k : Int → Int → Option (Int)} (hk : ∀ (v3' : Int) (v4' : Int), k v3' v4' = some res → Z p l e ({ frames := 0, cells := 0, slots := 0, locals := 0 } : Room) s m args below meth c (MQ below (zQ D J A (fun rv w9 => rv = some (.int (zi res)) ∧ w9 = [(a_p0, zI J n_p0 f_p0)])) args s 0 0 A) cX9_gradeOf 7 wsX9_gradeOf RX9 D J A (some .int) (yX9_gradeOf.name, []) 0 0 [(a_p0, zI J n_p0 f_p0)] [] 76 []) : ∀ (N : Nat) (v3 : Int) (v4 : Int), sh_X9_gradeOf_L6 F n_p0 p1 p2 f_p0 k N v3 v4 = some res → Z p l e ({ frames := 0, cells := 0, slots := 0, locals := 0 } : Room) s m args below meth c (MQ below (zQ D J A (fun rv w9 => rv = some (.int (zi res)) ∧ w9 = [(a_p0, zI J n_p0 f_p0)])) args s 0 0 A) cX9_gradeOf 7 wsX9_gradeOf RX9 D J A (some .int) (yX9_gradeOf.name, []) 0 0 [(a_p0, zI J n_p0 f_p0)] [(0, .ref a_p0), (1, .int (zi p1)), (2, .int (zi p2)), (4, .int (zi v3)), (5, .int (zi v4))] 6 [] := by
  intro N
  induction N with
  | zero =>
    intro v3 v4 hsh
    exact absurd hsh (by simp [sh_X9_gradeOf_L6])
  | succ N ih =>
    intro v3 v4 hsh
    rw [sh_X9_gradeOf_L6] at hsh
    refine z_iload (pc' := 8) 4 dX9_gradeOf_6 rfl rfl ?_
    refine z_aload_n (pc' := 9) 0 dX9_gradeOf_8 rfl rfl rfl ?_
    refine z_iload_n (pc' := 10) 1 dX9_gradeOf_9 rfl rfl rfl ?_
    refine z_bipush (pc' := 12) dX9_gradeOf_10 (by decide) rfl ?_
    refine z_iload_n (pc' := 13) 2 dX9_gradeOf_12 rfl rfl rfl ?_
    refine z_imul (pc' := 14) dX9_gradeOf_13 rfl ?_
    refine z_iadd (pc' := 15) dX9_gradeOf_14 rfl ?_
    refine z_iconst (pc' := 16) dX9_gradeOf_15 rfl ?_
    refine z_iadd (pc' := 17) dX9_gradeOf_16 rfl ?_
    have g5 := zkx_p hsh
    replace hsh := zkx_k hsh
    refine z_iaload (pc' := 18) 0 dX9_gradeOf_17 rfl hn_p0 g5 rfl ?_
    have g6 := zkr_p hsh
    replace hsh := zkr_k hsh
    have g7 := zkr_p hsh
    replace hsh := zkr_k hsh
    refine z_icmp_ge (pc' := 21) (tgt := 76) dX9_gradeOf_18 (by decide) g6 g7 rfl (fun q => ?_) (fun q => ?_)
    · replace hsh := zif_f q hsh
      refine z_perm [(a_p0, zI J n_p0 f_p0)] [] [0] [] rfl rfl rfl ?_
      exact hk _ _ hsh
    · replace hsh := zif_t q hsh
      refine z_aload_n (pc' := 22) 0 dX9_gradeOf_21 rfl rfl rfl ?_
      refine z_iload_n (pc' := 23) 1 dX9_gradeOf_22 rfl rfl rfl ?_
      refine z_bipush (pc' := 25) dX9_gradeOf_23 (by decide) rfl ?_
      refine z_iload_n (pc' := 26) 2 dX9_gradeOf_25 rfl rfl rfl ?_
      refine z_imul (pc' := 27) dX9_gradeOf_26 rfl ?_
      refine z_iadd (pc' := 28) dX9_gradeOf_27 rfl ?_
      refine z_iconst (pc' := 29) dX9_gradeOf_28 rfl ?_
      refine z_iadd (pc' := 30) dX9_gradeOf_29 rfl ?_
      refine z_iconst (pc' := 31) dX9_gradeOf_30 rfl ?_
      refine z_iload (pc' := 33) 4 dX9_gradeOf_31 rfl rfl ?_
      refine z_imul (pc' := 34) dX9_gradeOf_33 rfl ?_
      refine z_iadd (pc' := 35) dX9_gradeOf_34 rfl ?_
      have g8 := zkx_p hsh
      replace hsh := zkx_k hsh
      refine z_iaload (pc' := 36) 0 dX9_gradeOf_35 rfl hn_p0 g8 rfl ?_
      refine z_istore (pc' := 38) [(6, .int (zi (f_p0 ((((p1 + ((15 : Int) * p2)) + (3 : Int)) + ((2 : Int) * v4))).toNat))), (0, .ref a_p0), (1, .int (zi p1)), (2, .int (zi p2)), (4, .int (zi v3)), (5, .int (zi v4))] dX9_gradeOf_36 (by decide) rfl rfl ?_
      refine z_iload (pc' := 40) 4 dX9_gradeOf_38 rfl rfl ?_
      refine z_iload (pc' := 42) 0 dX9_gradeOf_40 rfl rfl ?_
      have g9 := zkr_p hsh
      replace hsh := zkr_k hsh
      have g10 := zkr_p hsh
      replace hsh := zkr_k hsh
      refine z_icmp_ge (pc' := 45) (tgt := 63) dX9_gradeOf_42 (by decide) g9 g10 rfl (fun q => ?_) (fun q => ?_)
      · replace hsh := zif_f q hsh
        refine z_iload (pc' := 65) 4 dX9_gradeOf_63 rfl rfl ?_
        refine z_iload (pc' := 67) 0 dX9_gradeOf_65 rfl rfl ?_
        refine z_isub (pc' := 68) dX9_gradeOf_67 rfl ?_
        refine z_istore (pc' := 70) [(4, .int (zi (v3 - (f_p0 ((((p1 + ((15 : Int) * p2)) + (3 : Int)) + ((2 : Int) * v4))).toNat)))), (6, .int (zi (f_p0 ((((p1 + ((15 : Int) * p2)) + (3 : Int)) + ((2 : Int) * v4))).toNat))), (0, .ref a_p0), (1, .int (zi p1)), (2, .int (zi p2)), (5, .int (zi v4))] dX9_gradeOf_68 (by decide) rfl rfl ?_
        refine z_iinc (pc' := 73) [(5, .int (zi (v4 + (1 : Int)))), (4, .int (zi (v3 - (f_p0 ((((p1 + ((15 : Int) * p2)) + (3 : Int)) + ((2 : Int) * v4))).toNat)))), (6, .int (zi (f_p0 ((((p1 + ((15 : Int) * p2)) + (3 : Int)) + ((2 : Int) * v4))).toNat))), (0, .ref a_p0), (1, .int (zi p1)), (2, .int (zi p2))] 5 dX9_gradeOf_70 rfl (by decide) rfl rfl ?_
        refine z_goto (tgt := 6) dX9_gradeOf_73 (by decide) ?_
        refine z_perm [(a_p0, zI J n_p0 f_p0)] [(0, .ref a_p0), (1, .int (zi p1)), (2, .int (zi p2)), (4, .int (zi (v3 - (f_p0 ((((p1 + ((15 : Int) * p2)) + (3 : Int)) + ((2 : Int) * v4))).toNat)))), (5, .int (zi (v4 + (1 : Int))))] [0] [3, 4, 5, 1, 0] rfl rfl rfl ?_
        exact ih _ _ hsh
      · replace hsh := zif_t q hsh
        refine z_aload_n (pc' := 46) 1 dX9_gradeOf_45 rfl rfl rfl ?_
        refine z_iload_n (pc' := 47) 2 dX9_gradeOf_46 rfl rfl rfl ?_
        refine z_bipush (pc' := 49) dX9_gradeOf_47 (by decide) rfl ?_
        refine z_iload_n (pc' := 50) 3 dX9_gradeOf_49 rfl rfl rfl ?_
        refine z_imul (pc' := 51) dX9_gradeOf_50 rfl ?_
        refine z_iadd (pc' := 52) dX9_gradeOf_51 rfl ?_
        refine z_iconst (pc' := 53) dX9_gradeOf_52 rfl ?_
        refine z_iadd (pc' := 54) dX9_gradeOf_53 rfl ?_
        refine z_iconst (pc' := 55) dX9_gradeOf_54 rfl ?_
        refine z_iload (pc' := 57) 5 dX9_gradeOf_55 rfl rfl ?_
        refine z_imul (pc' := 58) dX9_gradeOf_57 rfl ?_
        refine z_iadd (pc' := 59) dX9_gradeOf_58 rfl ?_
        refine z_iconst (pc' := 60) dX9_gradeOf_59 rfl ?_
        refine z_iadd (pc' := 61) dX9_gradeOf_60 rfl ?_
        have g11 := zkx_p hsh
        replace hsh := zkx_k hsh
        refine z_iaload (pc' := 62) 0 dX9_gradeOf_61 rfl hn_p0 g11 rfl ?_
        cases hsh
        exact z_iret rfl dX9_gradeOf_62 ⟨rfl, rfl⟩
set_option maxRecDepth 100000 in
set_option maxHeartbeats 4000000 in
theorem zc_X9_gradeOf (l : Launch) (D : va_G) (J : Nat → ClassId) (F : Nat) (a_p0 : Nat) (f_p0 : Nat → Int) (n_p0 : Nat) (p1 : Int) (p2 : Int) (p3 : Int) (hn_p0 : n_p0 ≤ 2147483647) (res : Int) (hsh : sh_X9_gradeOf F f_p0 n_p0 p1 p2 p3 = some res) : ZM l D J yX9_gradeOf wsX9_gradeOf ({ frames := 0, cells := 0, slots := 0, locals := 0 } : Room) 0 0 [.ref a_p0, .int (zi p1), .int (zi p2), .int (zi p3)] [(a_p0, zI J n_p0 f_p0)] (fun rv w9 => rv = some (.int (zi res)) ∧ w9 = [(a_p0, zI J n_p0 f_p0)]) := by
  refine z_ofZ (cc := cX9_gradeOf) (maxL := 7) (ret := (some .int)) 0 0 (by decide) rfl (Nat.le_of_ble_eq_true rfl) [(0, .ref a_p0), (1, .int (zi p1)), (2, .int (zi p2)), (3, .int (zi p3))] rfl ?_
  intro p e s m args below meth c A
  unfold sh_X9_gradeOf at hsh
  refine z_iload_n (pc' := 1) 3 dX9_gradeOf_0 rfl rfl rfl ?_
  refine z_istore (pc' := 3) [(4, .int (zi p3)), (0, .ref a_p0), (1, .int (zi p1)), (2, .int (zi p2)), (3, .int (zi p3))] dX9_gradeOf_1 (by decide) rfl rfl ?_
  refine z_iconst (pc' := 4) dX9_gradeOf_3 rfl ?_
  refine z_istore (pc' := 6) [(5, .int (zi (0 : Int))), (4, .int (zi p3)), (0, .ref a_p0), (1, .int (zi p1)), (2, .int (zi p2)), (3, .int (zi p3))] dX9_gradeOf_4 (by decide) rfl rfl ?_
  refine z_perm [(a_p0, zI J n_p0 f_p0)] [(0, .ref a_p0), (1, .int (zi p1)), (2, .int (zi p2)), (4, .int (zi p3)), (5, .int (zi (0 : Int)))] [0] [2, 3, 4, 1, 0] rfl rfl rfl ?_
  refine zl_X9_gradeOf_L6 (F := F) (hn_p0 := hn_p0) (hk := fun v12 v13 hsh => ?_) _ _ _ hsh
  refine z_bipush (pc' := 78) dX9_gradeOf_76 (by decide) rfl ?_
  cases hsh
  exact z_iret rfl dX9_gradeOf_78 ⟨rfl, rfl⟩
def sh_X9_take_L45 (F : Nat) (n_p0 : Nat) (p1 : Int) (p2 : Int) (k : Int → (Nat → Int) → Option (Int × (Nat → Int))) : Nat → Int → (Nat → Int) → Option (Int × (Nat → Int))
  | 0, _, _ => none
  | N + 1, v11, v12 => zkr v11 (if v11 < (10 : Int) then zkx ((((p1 + ((15 : Int) * p2)) + (3 : Int)) + v11) + (2 : Int)) n_p0 (zkx (((p1 + ((15 : Int) * p2)) + (3 : Int)) + v11) n_p0 (sh_X9_take_L45 F n_p0 p1 p2 k N (v11 + (1 : Int)) (va_up v12 ((((p1 + ((15 : Int) * p2)) + (3 : Int)) + v11)).toNat (v12 (((((p1 + ((15 : Int) * p2)) + (3 : Int)) + v11) + (2 : Int))).toNat)))) else k v11 v12)
def sh_X9_take (F : Nat) (f_p0 : Nat → Int) (n_p0 : Nat) (p1 : Int) (p2 : Int) : Option (Int × (Nat → Int)) := zkx (((p1 + ((15 : Int) * p2)) + (3 : Int)) + (1 : Int)) n_p0 (zkx ((p1 + ((15 : Int) * p2)) + (3 : Int)) n_p0 (zkr ((va_up f_p0 (((p1 + ((15 : Int) * p2)) + (3 : Int))).toNat ((f_p0 (((p1 + ((15 : Int) * p2)) + (3 : Int))).toNat) - (1 : Int))) (((p1 + ((15 : Int) * p2)) + (3 : Int))).toNat) (if ((va_up f_p0 (((p1 + ((15 : Int) * p2)) + (3 : Int))).toNat ((f_p0 (((p1 + ((15 : Int) * p2)) + (3 : Int))).toNat) - (1 : Int))) (((p1 + ((15 : Int) * p2)) + (3 : Int))).toNat) = (0 : Int) then zkx ((p1 + ((15 : Int) * p2)) + (2 : Int)) n_p0 (sh_X9_take_L45 F n_p0 p1 p2 (fun (v16 : Int) (v17 : (Nat → Int)) => zkx ((((p1 + ((15 : Int) * p2)) + (3 : Int)) + (12 : Int)) - (2 : Int)) n_p0 (zkx ((((p1 + ((15 : Int) * p2)) + (3 : Int)) + (12 : Int)) - (1 : Int)) n_p0 (zkx ((p1 + ((15 : Int) * p2)) + (0 : Int)) n_p0 (zkx (p1 + (241 : Int)) n_p0 (zkx (p1 + (242 : Int)) n_p0 (some ((f_p0 ((((p1 + ((15 : Int) * p2)) + (3 : Int)) + (1 : Int))).toNat), (va_up (va_up (va_up (va_up (va_up v17 (((((p1 + ((15 : Int) * p2)) + (3 : Int)) + (12 : Int)) - (2 : Int))).toNat (0 : Int)) (((((p1 + ((15 : Int) * p2)) + (3 : Int)) + (12 : Int)) - (1 : Int))).toNat (0 : Int)) (((p1 + ((15 : Int) * p2)) + (0 : Int))).toNat (((va_up (va_up v17 (((((p1 + ((15 : Int) * p2)) + (3 : Int)) + (12 : Int)) - (2 : Int))).toNat (0 : Int)) (((((p1 + ((15 : Int) * p2)) + (3 : Int)) + (12 : Int)) - (1 : Int))).toNat (0 : Int)) (((p1 + ((15 : Int) * p2)) + (0 : Int))).toNat) + (1 : Int))) ((p1 + (241 : Int))).toNat (((va_up (va_up (va_up v17 (((((p1 + ((15 : Int) * p2)) + (3 : Int)) + (12 : Int)) - (2 : Int))).toNat (0 : Int)) (((((p1 + ((15 : Int) * p2)) + (3 : Int)) + (12 : Int)) - (1 : Int))).toNat (0 : Int)) (((p1 + ((15 : Int) * p2)) + (0 : Int))).toNat (((va_up (va_up v17 (((((p1 + ((15 : Int) * p2)) + (3 : Int)) + (12 : Int)) - (2 : Int))).toNat (0 : Int)) (((((p1 + ((15 : Int) * p2)) + (3 : Int)) + (12 : Int)) - (1 : Int))).toNat (0 : Int)) (((p1 + ((15 : Int) * p2)) + (0 : Int))).toNat) + (1 : Int))) ((p1 + (241 : Int))).toNat) + (1 : Int))) ((p1 + (242 : Int))).toNat (((va_up (va_up (va_up (va_up v17 (((((p1 + ((15 : Int) * p2)) + (3 : Int)) + (12 : Int)) - (2 : Int))).toNat (0 : Int)) (((((p1 + ((15 : Int) * p2)) + (3 : Int)) + (12 : Int)) - (1 : Int))).toNat (0 : Int)) (((p1 + ((15 : Int) * p2)) + (0 : Int))).toNat (((va_up (va_up v17 (((((p1 + ((15 : Int) * p2)) + (3 : Int)) + (12 : Int)) - (2 : Int))).toNat (0 : Int)) (((((p1 + ((15 : Int) * p2)) + (3 : Int)) + (12 : Int)) - (1 : Int))).toNat (0 : Int)) (((p1 + ((15 : Int) * p2)) + (0 : Int))).toNat) + (1 : Int))) ((p1 + (241 : Int))).toNat (((va_up (va_up (va_up v17 (((((p1 + ((15 : Int) * p2)) + (3 : Int)) + (12 : Int)) - (2 : Int))).toNat (0 : Int)) (((((p1 + ((15 : Int) * p2)) + (3 : Int)) + (12 : Int)) - (1 : Int))).toNat (0 : Int)) (((p1 + ((15 : Int) * p2)) + (0 : Int))).toNat (((va_up (va_up v17 (((((p1 + ((15 : Int) * p2)) + (3 : Int)) + (12 : Int)) - (2 : Int))).toNat (0 : Int)) (((((p1 + ((15 : Int) * p2)) + (3 : Int)) + (12 : Int)) - (1 : Int))).toNat (0 : Int)) (((p1 + ((15 : Int) * p2)) + (0 : Int))).toNat) + (1 : Int))) ((p1 + (241 : Int))).toNat) + (1 : Int))) ((p1 + (242 : Int))).toNat) + (f_p0 ((((p1 + ((15 : Int) * p2)) + (3 : Int)) + (1 : Int))).toNat)))))))))) F (0 : Int) (va_up (va_up f_p0 (((p1 + ((15 : Int) * p2)) + (3 : Int))).toNat ((f_p0 (((p1 + ((15 : Int) * p2)) + (3 : Int))).toNat) - (1 : Int))) (((p1 + ((15 : Int) * p2)) + (2 : Int))).toNat (((va_up f_p0 (((p1 + ((15 : Int) * p2)) + (3 : Int))).toNat ((f_p0 (((p1 + ((15 : Int) * p2)) + (3 : Int))).toNat) - (1 : Int))) (((p1 + ((15 : Int) * p2)) + (2 : Int))).toNat) - (1 : Int)))) else zkx ((p1 + ((15 : Int) * p2)) + (0 : Int)) n_p0 (zkx (p1 + (241 : Int)) n_p0 (zkx (p1 + (242 : Int)) n_p0 (some ((f_p0 ((((p1 + ((15 : Int) * p2)) + (3 : Int)) + (1 : Int))).toNat), (va_up (va_up (va_up (va_up f_p0 (((p1 + ((15 : Int) * p2)) + (3 : Int))).toNat ((f_p0 (((p1 + ((15 : Int) * p2)) + (3 : Int))).toNat) - (1 : Int))) (((p1 + ((15 : Int) * p2)) + (0 : Int))).toNat (((va_up f_p0 (((p1 + ((15 : Int) * p2)) + (3 : Int))).toNat ((f_p0 (((p1 + ((15 : Int) * p2)) + (3 : Int))).toNat) - (1 : Int))) (((p1 + ((15 : Int) * p2)) + (0 : Int))).toNat) + (1 : Int))) ((p1 + (241 : Int))).toNat (((va_up (va_up f_p0 (((p1 + ((15 : Int) * p2)) + (3 : Int))).toNat ((f_p0 (((p1 + ((15 : Int) * p2)) + (3 : Int))).toNat) - (1 : Int))) (((p1 + ((15 : Int) * p2)) + (0 : Int))).toNat (((va_up f_p0 (((p1 + ((15 : Int) * p2)) + (3 : Int))).toNat ((f_p0 (((p1 + ((15 : Int) * p2)) + (3 : Int))).toNat) - (1 : Int))) (((p1 + ((15 : Int) * p2)) + (0 : Int))).toNat) + (1 : Int))) ((p1 + (241 : Int))).toNat) + (1 : Int))) ((p1 + (242 : Int))).toNat (((va_up (va_up (va_up f_p0 (((p1 + ((15 : Int) * p2)) + (3 : Int))).toNat ((f_p0 (((p1 + ((15 : Int) * p2)) + (3 : Int))).toNat) - (1 : Int))) (((p1 + ((15 : Int) * p2)) + (0 : Int))).toNat (((va_up f_p0 (((p1 + ((15 : Int) * p2)) + (3 : Int))).toNat ((f_p0 (((p1 + ((15 : Int) * p2)) + (3 : Int))).toNat) - (1 : Int))) (((p1 + ((15 : Int) * p2)) + (0 : Int))).toNat) + (1 : Int))) ((p1 + (241 : Int))).toNat (((va_up (va_up f_p0 (((p1 + ((15 : Int) * p2)) + (3 : Int))).toNat ((f_p0 (((p1 + ((15 : Int) * p2)) + (3 : Int))).toNat) - (1 : Int))) (((p1 + ((15 : Int) * p2)) + (0 : Int))).toNat (((va_up f_p0 (((p1 + ((15 : Int) * p2)) + (3 : Int))).toNat ((f_p0 (((p1 + ((15 : Int) * p2)) + (3 : Int))).toNat) - (1 : Int))) (((p1 + ((15 : Int) * p2)) + (0 : Int))).toNat) + (1 : Int))) ((p1 + (241 : Int))).toNat) + (1 : Int))) ((p1 + (242 : Int))).toNat) + (f_p0 ((((p1 + ((15 : Int) * p2)) + (3 : Int)) + (1 : Int))).toNat))))))))))
set_option maxRecDepth 100000 in
set_option maxHeartbeats 4000000 in
theorem zl_X9_take_L45 {p : Program} {l : Launch} {e : Env} {s : State} {m : MethodId} {args : Array Value} {below : List Frame} {meth : Method} {c : Code} {A : Nat → Prop} {D : va_G} {J : Nat → ClassId} {F : Nat} {n_p0 : Nat} {p1 : Int} {p2 : Int} {a_p0 : Nat} {f_p0 : Nat → Int} {res : Int × (Nat → Int)} (hn_p0 : n_p0 ≤ 2147483647) {k : Int → (Nat → Int) → Option (Int × (Nat → Int))} (hk : ∀ (v11' : Int) (v12' : (Nat → Int)), k v11' v12' = some res → Z p l e ({ frames := 0, cells := 0, slots := 0, locals := 0 } : Room) s m args below meth c (MQ below (zQ D J A (fun rv w9 => rv = some (.int (zi res.1)) ∧ w9 = [(a_p0, zI J n_p0 res.2)])) args s 0 0 A) cX9_take 6 wsX9_take RX9 D J A (some .int) (yX9_take.name, []) 0 0 [(a_p0, zI J n_p0 v12')] [(0, .ref a_p0), (1, .int (zi p1)), (3, .int (zi (p1 + ((15 : Int) * p2)))), (4, .int (zi (f_p0 ((((p1 + ((15 : Int) * p2)) + (3 : Int)) + (1 : Int))).toNat)))] 76 []) : ∀ (N : Nat) (v11 : Int) (v12 : (Nat → Int)), sh_X9_take_L45 F n_p0 p1 p2 k N v11 v12 = some res → Z p l e ({ frames := 0, cells := 0, slots := 0, locals := 0 } : Room) s m args below meth c (MQ below (zQ D J A (fun rv w9 => rv = some (.int (zi res.1)) ∧ w9 = [(a_p0, zI J n_p0 res.2)])) args s 0 0 A) cX9_take 6 wsX9_take RX9 D J A (some .int) (yX9_take.name, []) 0 0 [(a_p0, zI J n_p0 v12)] [(0, .ref a_p0), (1, .int (zi p1)), (3, .int (zi (p1 + ((15 : Int) * p2)))), (4, .int (zi (f_p0 ((((p1 + ((15 : Int) * p2)) + (3 : Int)) + (1 : Int))).toNat))), (5, .int (zi v11))] 45 [] := by
  intro N
  induction N with
  | zero =>
    intro v11 v12 hsh
    exact absurd hsh (by simp [sh_X9_take_L45])
  | succ N ih =>
    intro v11 v12 hsh
    rw [sh_X9_take_L45] at hsh
    refine z_iload (pc' := 47) 4 dX9_take_45 rfl rfl ?_
    refine z_bipush (pc' := 49) dX9_take_47 (by decide) rfl ?_
    have g13 := zkr_p hsh
    replace hsh := zkr_k hsh
    refine z_icmp_ge (pc' := 52) (tgt := 76) dX9_take_49 (by decide) g13 (by decide) rfl (fun q => ?_) (fun q => ?_)
    · replace hsh := zif_f q hsh
      refine z_perm [(a_p0, zI J n_p0 v12)] [(0, .ref a_p0), (1, .int (zi p1)), (3, .int (zi (p1 + ((15 : Int) * p2)))), (4, .int (zi (f_p0 ((((p1 + ((15 : Int) * p2)) + (3 : Int)) + (1 : Int))).toNat)))] [0] [0, 1, 2, 3] rfl rfl rfl ?_
      exact hk _ _ hsh
    · replace hsh := zif_t q hsh
      refine z_aload_n (pc' := 53) 0 dX9_take_52 rfl rfl rfl ?_
      refine z_iload_n (pc' := 54) 2 dX9_take_53 rfl rfl rfl ?_
      refine z_iconst (pc' := 55) dX9_take_54 rfl ?_
      refine z_iadd (pc' := 56) dX9_take_55 rfl ?_
      refine z_iload (pc' := 58) 4 dX9_take_56 rfl rfl ?_
      refine z_iadd (pc' := 59) dX9_take_58 rfl ?_
      refine z_aload_n (pc' := 60) 0 dX9_take_59 rfl rfl rfl ?_
      refine z_iload_n (pc' := 61) 2 dX9_take_60 rfl rfl rfl ?_
      refine z_iconst (pc' := 62) dX9_take_61 rfl ?_
      refine z_iadd (pc' := 63) dX9_take_62 rfl ?_
      refine z_iload (pc' := 65) 4 dX9_take_63 rfl rfl ?_
      refine z_iadd (pc' := 66) dX9_take_65 rfl ?_
      refine z_iconst (pc' := 67) dX9_take_66 rfl ?_
      refine z_iadd (pc' := 68) dX9_take_67 rfl ?_
      have g14 := zkx_p hsh
      replace hsh := zkx_k hsh
      refine z_iaload (pc' := 69) 0 dX9_take_68 rfl hn_p0 g14 rfl ?_
      have g15 := zkx_p hsh
      replace hsh := zkx_k hsh
      refine z_iastore (pc' := 70) 0 [(a_p0, zI J n_p0 (va_up v12 ((((p1 + ((15 : Int) * p2)) + (3 : Int)) + v11)).toNat (v12 (((((p1 + ((15 : Int) * p2)) + (3 : Int)) + v11) + (2 : Int))).toNat)))] dX9_take_69 rfl hn_p0 g15 rfl rfl ?_
      refine z_iinc (pc' := 73) [(5, .int (zi (v11 + (1 : Int)))), (0, .ref a_p0), (1, .int (zi p1)), (3, .int (zi (p1 + ((15 : Int) * p2)))), (4, .int (zi (f_p0 ((((p1 + ((15 : Int) * p2)) + (3 : Int)) + (1 : Int))).toNat)))] 4 dX9_take_70 rfl (by decide) rfl rfl ?_
      refine z_goto (tgt := 45) dX9_take_73 (by decide) ?_
      refine z_perm [(a_p0, zI J n_p0 (va_up v12 ((((p1 + ((15 : Int) * p2)) + (3 : Int)) + v11)).toNat (v12 (((((p1 + ((15 : Int) * p2)) + (3 : Int)) + v11) + (2 : Int))).toNat)))] [(0, .ref a_p0), (1, .int (zi p1)), (3, .int (zi (p1 + ((15 : Int) * p2)))), (4, .int (zi (f_p0 ((((p1 + ((15 : Int) * p2)) + (3 : Int)) + (1 : Int))).toNat))), (5, .int (zi (v11 + (1 : Int))))] [0] [1, 2, 3, 4, 0] rfl rfl rfl ?_
      exact ih _ _ hsh
set_option maxRecDepth 100000 in
set_option maxHeartbeats 4000000 in
theorem zc_X9_take (l : Launch) (D : va_G) (J : Nat → ClassId) (F : Nat) (a_p0 : Nat) (f_p0 : Nat → Int) (n_p0 : Nat) (p1 : Int) (p2 : Int) (hn_p0 : n_p0 ≤ 2147483647) (res : Int × (Nat → Int)) (hsh : sh_X9_take F f_p0 n_p0 p1 p2 = some res) : ZM l D J yX9_take wsX9_take ({ frames := 0, cells := 0, slots := 0, locals := 0 } : Room) 0 0 [.ref a_p0, .int (zi p1), .int (zi p2)] [(a_p0, zI J n_p0 f_p0)] (fun rv w9 => rv = some (.int (zi res.1)) ∧ w9 = [(a_p0, zI J n_p0 res.2)]) := by
  refine z_ofZ (cc := cX9_take) (maxL := 6) (ret := (some .int)) 0 0 (by decide) rfl (Nat.le_of_ble_eq_true rfl) [(0, .ref a_p0), (1, .int (zi p1)), (2, .int (zi p2))] rfl ?_
  intro p e s m args below meth c A
  unfold sh_X9_take at hsh
  refine z_iload_n (pc' := 1) 1 dX9_take_0 rfl rfl rfl ?_
  refine z_bipush (pc' := 3) dX9_take_1 (by decide) rfl ?_
  refine z_iload_n (pc' := 4) 2 dX9_take_3 rfl rfl rfl ?_
  refine z_imul (pc' := 5) dX9_take_4 rfl ?_
  refine z_iadd (pc' := 6) dX9_take_5 rfl ?_
  refine z_istore_n (pc' := 7) [(3, .int (zi (p1 + ((15 : Int) * p2)))), (0, .ref a_p0), (1, .int (zi p1)), (2, .int (zi p2))] dX9_take_6 rfl (by decide) rfl rfl ?_
  refine z_aload_n (pc' := 8) 1 dX9_take_7 rfl rfl rfl ?_
  refine z_iload_n (pc' := 9) 0 dX9_take_8 rfl rfl rfl ?_
  refine z_iconst (pc' := 10) dX9_take_9 rfl ?_
  refine z_iadd (pc' := 11) dX9_take_10 rfl ?_
  refine z_iconst (pc' := 12) dX9_take_11 rfl ?_
  refine z_iadd (pc' := 13) dX9_take_12 rfl ?_
  have g1 := zkx_p hsh
  replace hsh := zkx_k hsh
  refine z_iaload (pc' := 14) 0 dX9_take_13 rfl hn_p0 g1 rfl ?_
  refine z_istore (pc' := 16) [(4, .int (zi (f_p0 ((((p1 + ((15 : Int) * p2)) + (3 : Int)) + (1 : Int))).toNat))), (3, .int (zi (p1 + ((15 : Int) * p2)))), (0, .ref a_p0), (1, .int (zi p1)), (2, .int (zi p2))] dX9_take_14 (by decide) rfl rfl ?_
  refine z_aload_n (pc' := 17) 2 dX9_take_16 rfl rfl rfl ?_
  refine z_iload_n (pc' := 18) 1 dX9_take_17 rfl rfl rfl ?_
  refine z_iconst (pc' := 19) dX9_take_18 rfl ?_
  refine z_iadd (pc' := 20) dX9_take_19 rfl ?_
  refine z_dup2 (pc' := 21) dX9_take_20 rfl rfl rfl ?_
  have g2 := zkx_p hsh
  replace hsh := zkx_k hsh
  refine z_iaload (pc' := 22) 0 dX9_take_21 rfl hn_p0 g2 rfl ?_
  refine z_iconst (pc' := 23) dX9_take_22 rfl ?_
  refine z_isub (pc' := 24) dX9_take_23 rfl ?_
  refine z_iastore (pc' := 25) 0 [(a_p0, zI J n_p0 (va_up f_p0 (((p1 + ((15 : Int) * p2)) + (3 : Int))).toNat ((f_p0 (((p1 + ((15 : Int) * p2)) + (3 : Int))).toNat) - (1 : Int))))] dX9_take_24 rfl hn_p0 g2 rfl rfl ?_
  refine z_aload_n (pc' := 26) 2 dX9_take_25 rfl rfl rfl ?_
  refine z_iload_n (pc' := 27) 1 dX9_take_26 rfl rfl rfl ?_
  refine z_iconst (pc' := 28) dX9_take_27 rfl ?_
  refine z_iadd (pc' := 29) dX9_take_28 rfl ?_
  refine z_iaload (pc' := 30) 0 dX9_take_29 rfl hn_p0 g2 rfl ?_
  have g3 := zkr_p hsh
  replace hsh := zkr_k hsh
  refine z_if_ne (pc' := 33) (tgt := 98) dX9_take_30 (by decide) g3 rfl (fun q => ?_) (fun q => ?_)
  · replace hsh := zif_f q hsh
    refine z_aload_n (pc' := 99) 2 dX9_take_98 rfl rfl rfl ?_
    refine z_iload_n (pc' := 100) 1 dX9_take_99 rfl rfl rfl ?_
    refine z_iconst (pc' := 101) dX9_take_100 rfl ?_
    refine z_iadd (pc' := 102) dX9_take_101 rfl ?_
    refine z_dup2 (pc' := 103) dX9_take_102 rfl rfl rfl ?_
    have g4 := zkx_p hsh
    replace hsh := zkx_k hsh
    refine z_iaload (pc' := 104) 0 dX9_take_103 rfl hn_p0 g4 rfl ?_
    refine z_iconst (pc' := 105) dX9_take_104 rfl ?_
    refine z_iadd (pc' := 106) dX9_take_105 rfl ?_
    refine z_iastore (pc' := 107) 0 [(a_p0, zI J n_p0 (va_up (va_up f_p0 (((p1 + ((15 : Int) * p2)) + (3 : Int))).toNat ((f_p0 (((p1 + ((15 : Int) * p2)) + (3 : Int))).toNat) - (1 : Int))) (((p1 + ((15 : Int) * p2)) + (0 : Int))).toNat (((va_up f_p0 (((p1 + ((15 : Int) * p2)) + (3 : Int))).toNat ((f_p0 (((p1 + ((15 : Int) * p2)) + (3 : Int))).toNat) - (1 : Int))) (((p1 + ((15 : Int) * p2)) + (0 : Int))).toNat) + (1 : Int))))] dX9_take_106 rfl hn_p0 g4 rfl rfl ?_
    refine z_aload_n (pc' := 108) 2 dX9_take_107 rfl rfl rfl ?_
    refine z_iload_n (pc' := 109) 3 dX9_take_108 rfl rfl rfl ?_
    refine z_sipush (pc' := 112) dX9_take_109 (by decide) rfl ?_
    refine z_iadd (pc' := 113) dX9_take_112 rfl ?_
    refine z_dup2 (pc' := 114) dX9_take_113 rfl rfl rfl ?_
    have g5 := zkx_p hsh
    replace hsh := zkx_k hsh
    refine z_iaload (pc' := 115) 0 dX9_take_114 rfl hn_p0 g5 rfl ?_
    refine z_iconst (pc' := 116) dX9_take_115 rfl ?_
    refine z_iadd (pc' := 117) dX9_take_116 rfl ?_
    refine z_iastore (pc' := 118) 0 [(a_p0, zI J n_p0 (va_up (va_up (va_up f_p0 (((p1 + ((15 : Int) * p2)) + (3 : Int))).toNat ((f_p0 (((p1 + ((15 : Int) * p2)) + (3 : Int))).toNat) - (1 : Int))) (((p1 + ((15 : Int) * p2)) + (0 : Int))).toNat (((va_up f_p0 (((p1 + ((15 : Int) * p2)) + (3 : Int))).toNat ((f_p0 (((p1 + ((15 : Int) * p2)) + (3 : Int))).toNat) - (1 : Int))) (((p1 + ((15 : Int) * p2)) + (0 : Int))).toNat) + (1 : Int))) ((p1 + (241 : Int))).toNat (((va_up (va_up f_p0 (((p1 + ((15 : Int) * p2)) + (3 : Int))).toNat ((f_p0 (((p1 + ((15 : Int) * p2)) + (3 : Int))).toNat) - (1 : Int))) (((p1 + ((15 : Int) * p2)) + (0 : Int))).toNat (((va_up f_p0 (((p1 + ((15 : Int) * p2)) + (3 : Int))).toNat ((f_p0 (((p1 + ((15 : Int) * p2)) + (3 : Int))).toNat) - (1 : Int))) (((p1 + ((15 : Int) * p2)) + (0 : Int))).toNat) + (1 : Int))) ((p1 + (241 : Int))).toNat) + (1 : Int))))] dX9_take_117 rfl hn_p0 g5 rfl rfl ?_
    refine z_aload_n (pc' := 119) 2 dX9_take_118 rfl rfl rfl ?_
    refine z_iload_n (pc' := 120) 3 dX9_take_119 rfl rfl rfl ?_
    refine z_sipush (pc' := 123) dX9_take_120 (by decide) rfl ?_
    refine z_iadd (pc' := 124) dX9_take_123 rfl ?_
    refine z_dup2 (pc' := 125) dX9_take_124 rfl rfl rfl ?_
    have g6 := zkx_p hsh
    replace hsh := zkx_k hsh
    refine z_iaload (pc' := 126) 0 dX9_take_125 rfl hn_p0 g6 rfl ?_
    refine z_iload (pc' := 128) 0 dX9_take_126 rfl rfl ?_
    refine z_iadd (pc' := 129) dX9_take_128 rfl ?_
    refine z_iastore (pc' := 130) 0 [(a_p0, zI J n_p0 (va_up (va_up (va_up (va_up f_p0 (((p1 + ((15 : Int) * p2)) + (3 : Int))).toNat ((f_p0 (((p1 + ((15 : Int) * p2)) + (3 : Int))).toNat) - (1 : Int))) (((p1 + ((15 : Int) * p2)) + (0 : Int))).toNat (((va_up f_p0 (((p1 + ((15 : Int) * p2)) + (3 : Int))).toNat ((f_p0 (((p1 + ((15 : Int) * p2)) + (3 : Int))).toNat) - (1 : Int))) (((p1 + ((15 : Int) * p2)) + (0 : Int))).toNat) + (1 : Int))) ((p1 + (241 : Int))).toNat (((va_up (va_up f_p0 (((p1 + ((15 : Int) * p2)) + (3 : Int))).toNat ((f_p0 (((p1 + ((15 : Int) * p2)) + (3 : Int))).toNat) - (1 : Int))) (((p1 + ((15 : Int) * p2)) + (0 : Int))).toNat (((va_up f_p0 (((p1 + ((15 : Int) * p2)) + (3 : Int))).toNat ((f_p0 (((p1 + ((15 : Int) * p2)) + (3 : Int))).toNat) - (1 : Int))) (((p1 + ((15 : Int) * p2)) + (0 : Int))).toNat) + (1 : Int))) ((p1 + (241 : Int))).toNat) + (1 : Int))) ((p1 + (242 : Int))).toNat (((va_up (va_up (va_up f_p0 (((p1 + ((15 : Int) * p2)) + (3 : Int))).toNat ((f_p0 (((p1 + ((15 : Int) * p2)) + (3 : Int))).toNat) - (1 : Int))) (((p1 + ((15 : Int) * p2)) + (0 : Int))).toNat (((va_up f_p0 (((p1 + ((15 : Int) * p2)) + (3 : Int))).toNat ((f_p0 (((p1 + ((15 : Int) * p2)) + (3 : Int))).toNat) - (1 : Int))) (((p1 + ((15 : Int) * p2)) + (0 : Int))).toNat) + (1 : Int))) ((p1 + (241 : Int))).toNat (((va_up (va_up f_p0 (((p1 + ((15 : Int) * p2)) + (3 : Int))).toNat ((f_p0 (((p1 + ((15 : Int) * p2)) + (3 : Int))).toNat) - (1 : Int))) (((p1 + ((15 : Int) * p2)) + (0 : Int))).toNat (((va_up f_p0 (((p1 + ((15 : Int) * p2)) + (3 : Int))).toNat ((f_p0 (((p1 + ((15 : Int) * p2)) + (3 : Int))).toNat) - (1 : Int))) (((p1 + ((15 : Int) * p2)) + (0 : Int))).toNat) + (1 : Int))) ((p1 + (241 : Int))).toNat) + (1 : Int))) ((p1 + (242 : Int))).toNat) + (f_p0 ((((p1 + ((15 : Int) * p2)) + (3 : Int)) + (1 : Int))).toNat))))] dX9_take_129 rfl hn_p0 g6 rfl rfl ?_
    refine z_iload (pc' := 132) 0 dX9_take_130 rfl rfl ?_
    cases hsh
    exact z_iret rfl dX9_take_132 ⟨rfl, rfl⟩
  · replace hsh := zif_t q hsh
    refine z_aload_n (pc' := 34) 2 dX9_take_33 rfl rfl rfl ?_
    refine z_iload_n (pc' := 35) 1 dX9_take_34 rfl rfl rfl ?_
    refine z_iconst (pc' := 36) dX9_take_35 rfl ?_
    refine z_iadd (pc' := 37) dX9_take_36 rfl ?_
    refine z_dup2 (pc' := 38) dX9_take_37 rfl rfl rfl ?_
    have g7 := zkx_p hsh
    replace hsh := zkx_k hsh
    refine z_iaload (pc' := 39) 0 dX9_take_38 rfl hn_p0 g7 rfl ?_
    refine z_iconst (pc' := 40) dX9_take_39 rfl ?_
    refine z_isub (pc' := 41) dX9_take_40 rfl ?_
    refine z_iastore (pc' := 42) 0 [(a_p0, zI J n_p0 (va_up (va_up f_p0 (((p1 + ((15 : Int) * p2)) + (3 : Int))).toNat ((f_p0 (((p1 + ((15 : Int) * p2)) + (3 : Int))).toNat) - (1 : Int))) (((p1 + ((15 : Int) * p2)) + (2 : Int))).toNat (((va_up f_p0 (((p1 + ((15 : Int) * p2)) + (3 : Int))).toNat ((f_p0 (((p1 + ((15 : Int) * p2)) + (3 : Int))).toNat) - (1 : Int))) (((p1 + ((15 : Int) * p2)) + (2 : Int))).toNat) - (1 : Int))))] dX9_take_41 rfl hn_p0 g7 rfl rfl ?_
    refine z_iconst (pc' := 43) dX9_take_42 rfl ?_
    refine z_istore (pc' := 45) [(5, .int (zi (0 : Int))), (4, .int (zi (f_p0 ((((p1 + ((15 : Int) * p2)) + (3 : Int)) + (1 : Int))).toNat))), (3, .int (zi (p1 + ((15 : Int) * p2)))), (0, .ref a_p0), (1, .int (zi p1)), (2, .int (zi p2))] dX9_take_43 (by decide) rfl rfl ?_
    refine z_perm [(a_p0, zI J n_p0 (va_up (va_up f_p0 (((p1 + ((15 : Int) * p2)) + (3 : Int))).toNat ((f_p0 (((p1 + ((15 : Int) * p2)) + (3 : Int))).toNat) - (1 : Int))) (((p1 + ((15 : Int) * p2)) + (2 : Int))).toNat (((va_up f_p0 (((p1 + ((15 : Int) * p2)) + (3 : Int))).toNat ((f_p0 (((p1 + ((15 : Int) * p2)) + (3 : Int))).toNat) - (1 : Int))) (((p1 + ((15 : Int) * p2)) + (2 : Int))).toNat) - (1 : Int))))] [(0, .ref a_p0), (1, .int (zi p1)), (3, .int (zi (p1 + ((15 : Int) * p2)))), (4, .int (zi (f_p0 ((((p1 + ((15 : Int) * p2)) + (3 : Int)) + (1 : Int))).toNat))), (5, .int (zi (0 : Int)))] [0] [3, 4, 2, 1, 0] rfl rfl rfl ?_
    refine zl_X9_take_L45 (F := F) (hn_p0 := hn_p0) (hk := fun v16 v17 hsh => ?_) _ _ _ hsh
    refine z_aload_n (pc' := 77) 0 dX9_take_76 rfl rfl rfl ?_
    refine z_iload_n (pc' := 78) 2 dX9_take_77 rfl rfl rfl ?_
    refine z_iconst (pc' := 79) dX9_take_78 rfl ?_
    refine z_iadd (pc' := 80) dX9_take_79 rfl ?_
    refine z_bipush (pc' := 82) dX9_take_80 (by decide) rfl ?_
    refine z_iadd (pc' := 83) dX9_take_82 rfl ?_
    refine z_iconst (pc' := 84) dX9_take_83 rfl ?_
    refine z_isub (pc' := 85) dX9_take_84 rfl ?_
    refine z_iconst (pc' := 86) dX9_take_85 rfl ?_
    have g18 := zkx_p hsh
    replace hsh := zkx_k hsh
    refine z_iastore (pc' := 87) 0 [(a_p0, zI J n_p0 (va_up v17 (((((p1 + ((15 : Int) * p2)) + (3 : Int)) + (12 : Int)) - (2 : Int))).toNat (0 : Int)))] dX9_take_86 rfl hn_p0 g18 rfl rfl ?_
    refine z_aload_n (pc' := 88) 0 dX9_take_87 rfl rfl rfl ?_
    refine z_iload_n (pc' := 89) 2 dX9_take_88 rfl rfl rfl ?_
    refine z_iconst (pc' := 90) dX9_take_89 rfl ?_
    refine z_iadd (pc' := 91) dX9_take_90 rfl ?_
    refine z_bipush (pc' := 93) dX9_take_91 (by decide) rfl ?_
    refine z_iadd (pc' := 94) dX9_take_93 rfl ?_
    refine z_iconst (pc' := 95) dX9_take_94 rfl ?_
    refine z_isub (pc' := 96) dX9_take_95 rfl ?_
    refine z_iconst (pc' := 97) dX9_take_96 rfl ?_
    have g19 := zkx_p hsh
    replace hsh := zkx_k hsh
    refine z_iastore (pc' := 98) 0 [(a_p0, zI J n_p0 (va_up (va_up v17 (((((p1 + ((15 : Int) * p2)) + (3 : Int)) + (12 : Int)) - (2 : Int))).toNat (0 : Int)) (((((p1 + ((15 : Int) * p2)) + (3 : Int)) + (12 : Int)) - (1 : Int))).toNat (0 : Int)))] dX9_take_97 rfl hn_p0 g19 rfl rfl ?_
    refine z_aload_n (pc' := 99) 0 dX9_take_98 rfl rfl rfl ?_
    refine z_iload_n (pc' := 100) 2 dX9_take_99 rfl rfl rfl ?_
    refine z_iconst (pc' := 101) dX9_take_100 rfl ?_
    refine z_iadd (pc' := 102) dX9_take_101 rfl ?_
    refine z_dup2 (pc' := 103) dX9_take_102 rfl rfl rfl ?_
    have g20 := zkx_p hsh
    replace hsh := zkx_k hsh
    refine z_iaload (pc' := 104) 0 dX9_take_103 rfl hn_p0 g20 rfl ?_
    refine z_iconst (pc' := 105) dX9_take_104 rfl ?_
    refine z_iadd (pc' := 106) dX9_take_105 rfl ?_
    refine z_iastore (pc' := 107) 0 [(a_p0, zI J n_p0 (va_up (va_up (va_up v17 (((((p1 + ((15 : Int) * p2)) + (3 : Int)) + (12 : Int)) - (2 : Int))).toNat (0 : Int)) (((((p1 + ((15 : Int) * p2)) + (3 : Int)) + (12 : Int)) - (1 : Int))).toNat (0 : Int)) (((p1 + ((15 : Int) * p2)) + (0 : Int))).toNat (((va_up (va_up v17 (((((p1 + ((15 : Int) * p2)) + (3 : Int)) + (12 : Int)) - (2 : Int))).toNat (0 : Int)) (((((p1 + ((15 : Int) * p2)) + (3 : Int)) + (12 : Int)) - (1 : Int))).toNat (0 : Int)) (((p1 + ((15 : Int) * p2)) + (0 : Int))).toNat) + (1 : Int))))] dX9_take_106 rfl hn_p0 g20 rfl rfl ?_
    refine z_aload_n (pc' := 108) 0 dX9_take_107 rfl rfl rfl ?_
    refine z_iload_n (pc' := 109) 1 dX9_take_108 rfl rfl rfl ?_
    refine z_sipush (pc' := 112) dX9_take_109 (by decide) rfl ?_
    refine z_iadd (pc' := 113) dX9_take_112 rfl ?_
    refine z_dup2 (pc' := 114) dX9_take_113 rfl rfl rfl ?_
    have g21 := zkx_p hsh
    replace hsh := zkx_k hsh
    refine z_iaload (pc' := 115) 0 dX9_take_114 rfl hn_p0 g21 rfl ?_
    refine z_iconst (pc' := 116) dX9_take_115 rfl ?_
    refine z_iadd (pc' := 117) dX9_take_116 rfl ?_
    refine z_iastore (pc' := 118) 0 [(a_p0, zI J n_p0 (va_up (va_up (va_up (va_up v17 (((((p1 + ((15 : Int) * p2)) + (3 : Int)) + (12 : Int)) - (2 : Int))).toNat (0 : Int)) (((((p1 + ((15 : Int) * p2)) + (3 : Int)) + (12 : Int)) - (1 : Int))).toNat (0 : Int)) (((p1 + ((15 : Int) * p2)) + (0 : Int))).toNat (((va_up (va_up v17 (((((p1 + ((15 : Int) * p2)) + (3 : Int)) + (12 : Int)) - (2 : Int))).toNat (0 : Int)) (((((p1 + ((15 : Int) * p2)) + (3 : Int)) + (12 : Int)) - (1 : Int))).toNat (0 : Int)) (((p1 + ((15 : Int) * p2)) + (0 : Int))).toNat) + (1 : Int))) ((p1 + (241 : Int))).toNat (((va_up (va_up (va_up v17 (((((p1 + ((15 : Int) * p2)) + (3 : Int)) + (12 : Int)) - (2 : Int))).toNat (0 : Int)) (((((p1 + ((15 : Int) * p2)) + (3 : Int)) + (12 : Int)) - (1 : Int))).toNat (0 : Int)) (((p1 + ((15 : Int) * p2)) + (0 : Int))).toNat (((va_up (va_up v17 (((((p1 + ((15 : Int) * p2)) + (3 : Int)) + (12 : Int)) - (2 : Int))).toNat (0 : Int)) (((((p1 + ((15 : Int) * p2)) + (3 : Int)) + (12 : Int)) - (1 : Int))).toNat (0 : Int)) (((p1 + ((15 : Int) * p2)) + (0 : Int))).toNat) + (1 : Int))) ((p1 + (241 : Int))).toNat) + (1 : Int))))] dX9_take_117 rfl hn_p0 g21 rfl rfl ?_
    refine z_aload_n (pc' := 119) 0 dX9_take_118 rfl rfl rfl ?_
    refine z_iload_n (pc' := 120) 1 dX9_take_119 rfl rfl rfl ?_
    refine z_sipush (pc' := 123) dX9_take_120 (by decide) rfl ?_
    refine z_iadd (pc' := 124) dX9_take_123 rfl ?_
    refine z_dup2 (pc' := 125) dX9_take_124 rfl rfl rfl ?_
    have g22 := zkx_p hsh
    replace hsh := zkx_k hsh
    refine z_iaload (pc' := 126) 0 dX9_take_125 rfl hn_p0 g22 rfl ?_
    refine z_iload (pc' := 128) 3 dX9_take_126 rfl rfl ?_
    refine z_iadd (pc' := 129) dX9_take_128 rfl ?_
    refine z_iastore (pc' := 130) 0 [(a_p0, zI J n_p0 (va_up (va_up (va_up (va_up (va_up v17 (((((p1 + ((15 : Int) * p2)) + (3 : Int)) + (12 : Int)) - (2 : Int))).toNat (0 : Int)) (((((p1 + ((15 : Int) * p2)) + (3 : Int)) + (12 : Int)) - (1 : Int))).toNat (0 : Int)) (((p1 + ((15 : Int) * p2)) + (0 : Int))).toNat (((va_up (va_up v17 (((((p1 + ((15 : Int) * p2)) + (3 : Int)) + (12 : Int)) - (2 : Int))).toNat (0 : Int)) (((((p1 + ((15 : Int) * p2)) + (3 : Int)) + (12 : Int)) - (1 : Int))).toNat (0 : Int)) (((p1 + ((15 : Int) * p2)) + (0 : Int))).toNat) + (1 : Int))) ((p1 + (241 : Int))).toNat (((va_up (va_up (va_up v17 (((((p1 + ((15 : Int) * p2)) + (3 : Int)) + (12 : Int)) - (2 : Int))).toNat (0 : Int)) (((((p1 + ((15 : Int) * p2)) + (3 : Int)) + (12 : Int)) - (1 : Int))).toNat (0 : Int)) (((p1 + ((15 : Int) * p2)) + (0 : Int))).toNat (((va_up (va_up v17 (((((p1 + ((15 : Int) * p2)) + (3 : Int)) + (12 : Int)) - (2 : Int))).toNat (0 : Int)) (((((p1 + ((15 : Int) * p2)) + (3 : Int)) + (12 : Int)) - (1 : Int))).toNat (0 : Int)) (((p1 + ((15 : Int) * p2)) + (0 : Int))).toNat) + (1 : Int))) ((p1 + (241 : Int))).toNat) + (1 : Int))) ((p1 + (242 : Int))).toNat (((va_up (va_up (va_up (va_up v17 (((((p1 + ((15 : Int) * p2)) + (3 : Int)) + (12 : Int)) - (2 : Int))).toNat (0 : Int)) (((((p1 + ((15 : Int) * p2)) + (3 : Int)) + (12 : Int)) - (1 : Int))).toNat (0 : Int)) (((p1 + ((15 : Int) * p2)) + (0 : Int))).toNat (((va_up (va_up v17 (((((p1 + ((15 : Int) * p2)) + (3 : Int)) + (12 : Int)) - (2 : Int))).toNat (0 : Int)) (((((p1 + ((15 : Int) * p2)) + (3 : Int)) + (12 : Int)) - (1 : Int))).toNat (0 : Int)) (((p1 + ((15 : Int) * p2)) + (0 : Int))).toNat) + (1 : Int))) ((p1 + (241 : Int))).toNat (((va_up (va_up (va_up v17 (((((p1 + ((15 : Int) * p2)) + (3 : Int)) + (12 : Int)) - (2 : Int))).toNat (0 : Int)) (((((p1 + ((15 : Int) * p2)) + (3 : Int)) + (12 : Int)) - (1 : Int))).toNat (0 : Int)) (((p1 + ((15 : Int) * p2)) + (0 : Int))).toNat (((va_up (va_up v17 (((((p1 + ((15 : Int) * p2)) + (3 : Int)) + (12 : Int)) - (2 : Int))).toNat (0 : Int)) (((((p1 + ((15 : Int) * p2)) + (3 : Int)) + (12 : Int)) - (1 : Int))).toNat (0 : Int)) (((p1 + ((15 : Int) * p2)) + (0 : Int))).toNat) + (1 : Int))) ((p1 + (241 : Int))).toNat) + (1 : Int))) ((p1 + (242 : Int))).toNat) + (f_p0 ((((p1 + ((15 : Int) * p2)) + (3 : Int)) + (1 : Int))).toNat))))] dX9_take_129 rfl hn_p0 g22 rfl rfl ?_
    refine z_iload (pc' := 132) 3 dX9_take_130 rfl rfl ?_
    cases hsh
    exact z_iret rfl dX9_take_132 ⟨rfl, rfl⟩
def sh_X9_areBeside (F : Nat) (c_t_wide : Int) (p0 : Int) (p1 : Int) : Option (Int) := zkr p0 (zkr c_t_wide (zkc (¬ c_t_wide = 0) (zkr p1 (zkc (¬ c_t_wide = 0) (zkc (¬ c_t_wide = 0) (zkc (¬ c_t_wide = 0) (zkr ((((zdiv p0 c_t_wide) - (zdiv p1 c_t_wide)) * ((zdiv p0 c_t_wide) - (zdiv p1 c_t_wide))) + (((zmod p0 c_t_wide) - (zmod p1 c_t_wide)) * ((zmod p0 c_t_wide) - (zmod p1 c_t_wide)))) (if ((((zdiv p0 c_t_wide) - (zdiv p1 c_t_wide)) * ((zdiv p0 c_t_wide) - (zdiv p1 c_t_wide))) + (((zmod p0 c_t_wide) - (zmod p1 c_t_wide)) * ((zmod p0 c_t_wide) - (zmod p1 c_t_wide)))) = (1 : Int) then some ((1 : Int)) else some ((0 : Int))))))))))
theorem mX9_areBeside_f13 : Cond.fieldLink RX9 13 (TX9 2).1 (TX9 2).2.1 (TX9 2).2.2.1 ∈ wsX9_areBeside := List.mem_of_getElem? (i := 1) rfl
theorem iX9_areBeside_X9 : ∀ w ∈ wsX90, w ∈ wsX9_areBeside := fun _ h => (List.mem_cons_of_mem _ (List.mem_append_right _ h))
set_option maxRecDepth 100000 in
set_option maxHeartbeats 4000000 in
theorem zc_X9_areBeside (l : Launch) (D : va_G) (J : Nat → ClassId) (F : Nat) (a_t : Nat) (a_t_now : Nat) (a_t_trial : Nat) (a_t_diary : Nat) (a_t_kept : Nat) (a_t_isKept : Nat) (a_t_script : Nat) (a_t_read : Nat) (a_t_wanted : Nat) (a_t_level : Nat) (a_t_chosen : Nat) (a_t_best : Nat) (c_t_refusal : Int) (c_t_high : Int) (c_t_wide : Int) (c_t_acts : Int) (c_t_next : Int) (c_t_scriptSize : Int) (c_t_spot : Int) (c_t_readHigh : Int) (c_t_readWide : Int) (p0 : Int) (p1 : Int) (res : Int) (hsh : sh_X9_areBeside F c_t_wide p0 p1 = some res) : ZM l D J yX9_areBeside wsX9_areBeside ({ frames := 0, cells := 0, slots := 0, locals := 0 } : Room) 0 0 [.ref a_t, .int (zi p0), .int (zi p1)] [(a_t, .inr (8, [.int (zi c_t_refusal), .int (zi c_t_high), .int (zi c_t_wide), .ref a_t_now, .ref a_t_trial, .ref a_t_diary, .int (zi c_t_acts), .int (zi c_t_next), .ref a_t_kept, .ref a_t_isKept, .ref a_t_script, .int (zi c_t_scriptSize), .int (zi c_t_spot), .ref a_t_read, .int (zi c_t_readHigh), .int (zi c_t_readWide), .ref a_t_wanted, .ref a_t_level, .ref a_t_chosen, .ref a_t_best]))] (fun rv w9 => rv = some (.int (zi res)) ∧ w9 = [(a_t, .inr (8, [.int (zi c_t_refusal), .int (zi c_t_high), .int (zi c_t_wide), .ref a_t_now, .ref a_t_trial, .ref a_t_diary, .int (zi c_t_acts), .int (zi c_t_next), .ref a_t_kept, .ref a_t_isKept, .ref a_t_script, .int (zi c_t_scriptSize), .int (zi c_t_spot), .ref a_t_read, .int (zi c_t_readHigh), .int (zi c_t_readWide), .ref a_t_wanted, .ref a_t_level, .ref a_t_chosen, .ref a_t_best]))]) := by
  refine z_ofZ (cc := cX9_areBeside) (maxL := 5) (ret := (some .boolean)) 0 0 (by decide) rfl (Nat.le_of_ble_eq_true rfl) [(0, .ref a_t), (1, .int (zi p0)), (2, .int (zi p1))] rfl ?_
  intro p e s m args below meth c A
  unfold sh_X9_areBeside at hsh
  refine z_iload_n (pc' := 1) 1 dX9_areBeside_0 rfl rfl rfl ?_
  refine z_aload_n (pc' := 2) 0 dX9_areBeside_1 rfl rfl rfl ?_
  refine z_getfield (pc' := 5) (C := RX9) (T := TX9) (N := 20) 0 2 dX9_areBeside_2 iX9_areBeside_X9 rfl rfl (by decide) mX9_areBeside_f13 rfl rfl ?_
  have g1 := zkr_p hsh
  replace hsh := zkr_k hsh
  have g2 := zkr_p hsh
  replace hsh := zkr_k hsh
  have g3 := zkc_p hsh
  replace hsh := zkc_k hsh
  refine z_idiv (pc' := 6) dX9_areBeside_5 g1 g2 g3 rfl ?_
  refine z_iload_n (pc' := 7) 2 dX9_areBeside_6 rfl rfl rfl ?_
  refine z_aload_n (pc' := 8) 0 dX9_areBeside_7 rfl rfl rfl ?_
  refine z_getfield (pc' := 11) (C := RX9) (T := TX9) (N := 20) 0 2 dX9_areBeside_8 iX9_areBeside_X9 rfl rfl (by decide) mX9_areBeside_f13 rfl rfl ?_
  have g4 := zkr_p hsh
  replace hsh := zkr_k hsh
  have g5 := zkc_p hsh
  replace hsh := zkc_k hsh
  refine z_idiv (pc' := 12) dX9_areBeside_11 g4 g2 g5 rfl ?_
  refine z_isub (pc' := 13) dX9_areBeside_12 rfl ?_
  refine z_istore_n (pc' := 14) [(3, .int (zi ((zdiv p0 c_t_wide) - (zdiv p1 c_t_wide)))), (0, .ref a_t), (1, .int (zi p0)), (2, .int (zi p1))] dX9_areBeside_13 rfl (by decide) rfl rfl ?_
  refine z_iload_n (pc' := 15) 2 dX9_areBeside_14 rfl rfl rfl ?_
  refine z_aload_n (pc' := 16) 1 dX9_areBeside_15 rfl rfl rfl ?_
  refine z_getfield (pc' := 19) (C := RX9) (T := TX9) (N := 20) 0 2 dX9_areBeside_16 iX9_areBeside_X9 rfl rfl (by decide) mX9_areBeside_f13 rfl rfl ?_
  have g6 := zkc_p hsh
  replace hsh := zkc_k hsh
  refine z_irem (pc' := 20) dX9_areBeside_19 g1 g2 g6 rfl ?_
  refine z_iload_n (pc' := 21) 3 dX9_areBeside_20 rfl rfl rfl ?_
  refine z_aload_n (pc' := 22) 1 dX9_areBeside_21 rfl rfl rfl ?_
  refine z_getfield (pc' := 25) (C := RX9) (T := TX9) (N := 20) 0 2 dX9_areBeside_22 iX9_areBeside_X9 rfl rfl (by decide) mX9_areBeside_f13 rfl rfl ?_
  have g7 := zkc_p hsh
  replace hsh := zkc_k hsh
  refine z_irem (pc' := 26) dX9_areBeside_25 g4 g2 g7 rfl ?_
  refine z_isub (pc' := 27) dX9_areBeside_26 rfl ?_
  refine z_istore (pc' := 29) [(4, .int (zi ((zmod p0 c_t_wide) - (zmod p1 c_t_wide)))), (3, .int (zi ((zdiv p0 c_t_wide) - (zdiv p1 c_t_wide)))), (0, .ref a_t), (1, .int (zi p0)), (2, .int (zi p1))] dX9_areBeside_27 (by decide) rfl rfl ?_
  refine z_iload_n (pc' := 30) 1 dX9_areBeside_29 rfl rfl rfl ?_
  refine z_iload_n (pc' := 31) 1 dX9_areBeside_30 rfl rfl rfl ?_
  refine z_imul (pc' := 32) dX9_areBeside_31 rfl ?_
  refine z_iload (pc' := 34) 0 dX9_areBeside_32 rfl rfl ?_
  refine z_iload (pc' := 36) 0 dX9_areBeside_34 rfl rfl ?_
  refine z_imul (pc' := 37) dX9_areBeside_36 rfl ?_
  refine z_iadd (pc' := 38) dX9_areBeside_37 rfl ?_
  refine z_iconst (pc' := 39) dX9_areBeside_38 rfl ?_
  have g8 := zkr_p hsh
  replace hsh := zkr_k hsh
  refine z_icmp_ne (pc' := 42) (tgt := 46) dX9_areBeside_39 (by decide) g8 (by decide) rfl (fun q => ?_) (fun q => ?_)
  · replace hsh := zif_f q hsh
    refine z_iconst (pc' := 47) dX9_areBeside_46 rfl ?_
    cases hsh
    exact z_zret rfl (by decide) dX9_areBeside_47 ⟨rfl, rfl⟩
  · replace hsh := zif_t q hsh
    refine z_iconst (pc' := 43) dX9_areBeside_42 rfl ?_
    refine z_goto (tgt := 47) dX9_areBeside_43 (by decide) ?_
    cases hsh
    exact z_zret rfl (by decide) dX9_areBeside_47 ⟨rfl, rfl⟩
def sh_X9_allowed_L7 (F : Nat) (n_p0 : Nat) (p1 : Int) (p2 : Int) (c_t_high : Int) (c_t_wide : Int) (f_p0 : Nat → Int) (k : Int → Int → Option (Int)) : Nat → Int → Int → Option (Int)
  | 0, _, _ => none
  | N + 1, v3, v4 => (sh_X9_points F c_t_high c_t_wide).bind (fun (q5 : Int) => zkr v4 (zkr q5 (if v4 < q5 then zkx (p1 + (240 : Int)) n_p0 (zkx ((p1 + ((15 : Int) * p2)) + (0 : Int)) n_p0 (zkx ((p1 + ((15 : Int) * v4)) + (0 : Int)) n_p0 ((sh_X9_areBeside F c_t_wide p2 v4).bind (fun (q12 : Int) => zkr q12 (if q12 = (0 : Int) then sh_X9_allowed_L7 F n_p0 p1 p2 c_t_high c_t_wide f_p0 k N v3 (v4 + (1 : Int)) else zkr (((f_p0 ((p1 + (240 : Int))).toNat) - (f_p0 (((p1 + ((15 : Int) * p2)) + (0 : Int))).toNat)) + (f_p0 (((p1 + ((15 : Int) * v4)) + (0 : Int))).toNat)) (zkr v3 (if (((f_p0 ((p1 + (240 : Int))).toNat) - (f_p0 (((p1 + ((15 : Int) * p2)) + (0 : Int))).toNat)) + (f_p0 (((p1 + ((15 : Int) * v4)) + (0 : Int))).toNat)) < v3 then sh_X9_allowed_L7 F n_p0 p1 p2 c_t_high c_t_wide f_p0 k N (((f_p0 ((p1 + (240 : Int))).toNat) - (f_p0 (((p1 + ((15 : Int) * p2)) + (0 : Int))).toNat)) + (f_p0 (((p1 + ((15 : Int) * v4)) + (0 : Int))).toNat)) (v4 + (1 : Int)) else sh_X9_allowed_L7 F n_p0 p1 p2 c_t_high c_t_wide f_p0 k N v3 (v4 + (1 : Int))))))))) else k v3 v4)))
def sh_X9_allowed (F : Nat) (c_t_high : Int) (c_t_wide : Int) (f_p0 : Nat → Int) (n_p0 : Nat) (p1 : Int) (p2 : Int) : Option (Int) := sh_X9_allowed_L7 F n_p0 p1 p2 c_t_high c_t_wide f_p0 (fun (v17 : Int) (v18 : Int) => some (v17)) F (1000000000 : Int) (0 : Int)
theorem mX9_allowed_k106 : Cond.constant RX9 106 (1000000000) ∈ wsX9_allowed := List.mem_of_getElem? (i := 1) rfl
set_option maxRecDepth 100000 in
set_option maxHeartbeats 4000000 in
theorem zl_X9_allowed_L7 {p : Program} {l : Launch} {e : Env} {s : State} {m : MethodId} {args : Array Value} {below : List Frame} {meth : Method} {c : Code} {A : Nat → Prop} {D : va_G} {J : Nat → ClassId} {F : Nat} {n_p0 : Nat} {p1 : Int} {p2 : Int} {c_t_high : Int} {c_t_wide : Int} {f_p0 : Nat → Int} {a_t : Nat} {c_t_refusal : Int} {a_t_now : Nat} {a_t_trial : Nat} {a_t_diary : Nat} {c_t_acts : Int} {c_t_next : Int} {a_t_kept : Nat} {a_t_isKept : Nat} {a_t_script : Nat} {c_t_scriptSize : Int} {c_t_spot : Int} {a_t_read : Nat} {c_t_readHigh : Int} {c_t_readWide : Int} {a_t_wanted : Nat} {a_t_level : Nat} {a_t_chosen : Nat} {a_t_best : Nat} {a_p0 : Nat} {res : Int} (hn_p0 : n_p0 ≤ 2147483647) {k : Int → Int → Option (Int)} (hk : ∀ (v3' : Int) (v4' : Int), k v3' v4' = some res → Z p l e ({ frames := 1, cells := 0, slots := 0, locals := 24 } : Room) s m args below meth c (MQ below (zQ D J A (fun rv w9 => rv = some (.int (zi res)) ∧ w9 = [(a_t, .inr (8, [.int (zi c_t_refusal), .int (zi c_t_high), .int (zi c_t_wide), .ref a_t_now, .ref a_t_trial, .ref a_t_diary, .int (zi c_t_acts), .int (zi c_t_next), .ref a_t_kept, .ref a_t_isKept, .ref a_t_script, .int (zi c_t_scriptSize), .int (zi c_t_spot), .ref a_t_read, .int (zi c_t_readHigh), .int (zi c_t_readWide), .ref a_t_wanted, .ref a_t_level, .ref a_t_chosen, .ref a_t_best])), (a_p0, zI J n_p0 f_p0)])) args s 0 0 A) cX9_allowed 7 wsX9_allowed RX9 D J A (some .int) (yX9_allowed.name, []) 0 0 [(a_t, .inr (8, [.int (zi c_t_refusal), .int (zi c_t_high), .int (zi c_t_wide), .ref a_t_now, .ref a_t_trial, .ref a_t_diary, .int (zi c_t_acts), .int (zi c_t_next), .ref a_t_kept, .ref a_t_isKept, .ref a_t_script, .int (zi c_t_scriptSize), .int (zi c_t_spot), .ref a_t_read, .int (zi c_t_readHigh), .int (zi c_t_readWide), .ref a_t_wanted, .ref a_t_level, .ref a_t_chosen, .ref a_t_best])), (a_p0, zI J n_p0 f_p0)] [(4, .int (zi v3'))] 80 []) : ∀ (N : Nat) (v3 : Int) (v4 : Int), sh_X9_allowed_L7 F n_p0 p1 p2 c_t_high c_t_wide f_p0 k N v3 v4 = some res → Z p l e ({ frames := 1, cells := 0, slots := 0, locals := 24 } : Room) s m args below meth c (MQ below (zQ D J A (fun rv w9 => rv = some (.int (zi res)) ∧ w9 = [(a_t, .inr (8, [.int (zi c_t_refusal), .int (zi c_t_high), .int (zi c_t_wide), .ref a_t_now, .ref a_t_trial, .ref a_t_diary, .int (zi c_t_acts), .int (zi c_t_next), .ref a_t_kept, .ref a_t_isKept, .ref a_t_script, .int (zi c_t_scriptSize), .int (zi c_t_spot), .ref a_t_read, .int (zi c_t_readHigh), .int (zi c_t_readWide), .ref a_t_wanted, .ref a_t_level, .ref a_t_chosen, .ref a_t_best])), (a_p0, zI J n_p0 f_p0)])) args s 0 0 A) cX9_allowed 7 wsX9_allowed RX9 D J A (some .int) (yX9_allowed.name, []) 0 0 [(a_t, .inr (8, [.int (zi c_t_refusal), .int (zi c_t_high), .int (zi c_t_wide), .ref a_t_now, .ref a_t_trial, .ref a_t_diary, .int (zi c_t_acts), .int (zi c_t_next), .ref a_t_kept, .ref a_t_isKept, .ref a_t_script, .int (zi c_t_scriptSize), .int (zi c_t_spot), .ref a_t_read, .int (zi c_t_readHigh), .int (zi c_t_readWide), .ref a_t_wanted, .ref a_t_level, .ref a_t_chosen, .ref a_t_best])), (a_p0, zI J n_p0 f_p0)] [(0, .ref a_t), (1, .ref a_p0), (2, .int (zi p1)), (3, .int (zi p2)), (4, .int (zi v3)), (5, .int (zi v4))] 7 [] := by
  intro N
  induction N with
  | zero =>
    intro v3 v4 hsh
    exact absurd hsh (by simp [sh_X9_allowed_L7])
  | succ N ih =>
    intro v3 v4 hsh
    rw [sh_X9_allowed_L7] at hsh
    refine z_iload (pc' := 9) 5 dX9_allowed_7 rfl rfl ?_
    refine z_aload_n (pc' := 10) 0 dX9_allowed_9 rfl rfl rfl ?_
    obtain ⟨q5, h6, hsh⟩ := zbind hsh
    refine z_callV (pc' := 13) (C := RX9) (As := []) (rest := [.int (zi v4)]) (wr := [(a_p0, zI J n_p0 f_p0)]) 0 (zc_X9_points l D J F (a_t := a_t) (a_t_now := a_t_now) (a_t_trial := a_t_trial) (a_t_diary := a_t_diary) (a_t_kept := a_t_kept) (a_t_isKept := a_t_isKept) (a_t_script := a_t_script) (a_t_read := a_t_read) (a_t_wanted := a_t_wanted) (a_t_level := a_t_level) (a_t_chosen := a_t_chosen) (a_t_best := a_t_best) (c_t_refusal := c_t_refusal) (c_t_high := c_t_high) (c_t_wide := c_t_wide) (c_t_acts := c_t_acts) (c_t_next := c_t_next) (c_t_scriptSize := c_t_scriptSize) (c_t_spot := c_t_spot) (c_t_readHigh := c_t_readHigh) (c_t_readWide := c_t_readWide)  q5 h6) dX9_allowed_10 gX9_allowed_X9_points rfl rfl rfl (by decide +kernel) ⟨Nat.le_of_ble_eq_true rfl, Nat.le_of_ble_eq_true rfl⟩ ⟨Nat.le_of_ble_eq_true rfl, Nat.le_of_ble_eq_true rfl⟩ (z_spl_of [0, 1] rfl rfl) rfl rfl rfl rfl (Nat.le_of_ble_eq_true rfl) rfl (fun rv w9 hq => ?_)
    obtain ⟨rfl, rfl⟩ := hq
    refine z_ws [(a_p0, zI J n_p0 f_p0), (a_t, .inr (8, [.int (zi c_t_refusal), .int (zi c_t_high), .int (zi c_t_wide), .ref a_t_now, .ref a_t_trial, .ref a_t_diary, .int (zi c_t_acts), .int (zi c_t_next), .ref a_t_kept, .ref a_t_isKept, .ref a_t_script, .int (zi c_t_scriptSize), .int (zi c_t_spot), .ref a_t_read, .int (zi c_t_readHigh), .int (zi c_t_readWide), .ref a_t_wanted, .ref a_t_level, .ref a_t_chosen, .ref a_t_best]))] rfl ?_
    have g7 := zkr_p hsh
    replace hsh := zkr_k hsh
    have g8 := zkr_p hsh
    replace hsh := zkr_k hsh
    refine z_icmp_ge (pc' := 16) (tgt := 80) dX9_allowed_13 (by decide) g7 g8 rfl (fun q => ?_) (fun q => ?_)
    · replace hsh := zif_f q hsh
      refine z_perm [(a_t, .inr (8, [.int (zi c_t_refusal), .int (zi c_t_high), .int (zi c_t_wide), .ref a_t_now, .ref a_t_trial, .ref a_t_diary, .int (zi c_t_acts), .int (zi c_t_next), .ref a_t_kept, .ref a_t_isKept, .ref a_t_script, .int (zi c_t_scriptSize), .int (zi c_t_spot), .ref a_t_read, .int (zi c_t_readHigh), .int (zi c_t_readWide), .ref a_t_wanted, .ref a_t_level, .ref a_t_chosen, .ref a_t_best])), (a_p0, zI J n_p0 f_p0)] [(4, .int (zi v3))] [1, 0] [4] rfl rfl rfl ?_
      exact hk _ _ hsh
    · replace hsh := zif_t q hsh
      refine z_aload_n (pc' := 17) 1 dX9_allowed_16 rfl rfl rfl ?_
      refine z_iload_n (pc' := 18) 2 dX9_allowed_17 rfl rfl rfl ?_
      refine z_sipush (pc' := 21) dX9_allowed_18 (by decide) rfl ?_
      refine z_iadd (pc' := 22) dX9_allowed_21 rfl ?_
      have g9 := zkx_p hsh
      replace hsh := zkx_k hsh
      refine z_iaload (pc' := 23) 0 dX9_allowed_22 rfl hn_p0 g9 rfl ?_
      refine z_aload_n (pc' := 24) 1 dX9_allowed_23 rfl rfl rfl ?_
      refine z_iload_n (pc' := 25) 2 dX9_allowed_24 rfl rfl rfl ?_
      refine z_bipush (pc' := 27) dX9_allowed_25 (by decide) rfl ?_
      refine z_iload_n (pc' := 28) 3 dX9_allowed_27 rfl rfl rfl ?_
      refine z_imul (pc' := 29) dX9_allowed_28 rfl ?_
      refine z_iadd (pc' := 30) dX9_allowed_29 rfl ?_
      refine z_iconst (pc' := 31) dX9_allowed_30 rfl ?_
      refine z_iadd (pc' := 32) dX9_allowed_31 rfl ?_
      have g10 := zkx_p hsh
      replace hsh := zkx_k hsh
      refine z_iaload (pc' := 33) 0 dX9_allowed_32 rfl hn_p0 g10 rfl ?_
      refine z_isub (pc' := 34) dX9_allowed_33 rfl ?_
      refine z_aload_n (pc' := 35) 1 dX9_allowed_34 rfl rfl rfl ?_
      refine z_iload_n (pc' := 36) 2 dX9_allowed_35 rfl rfl rfl ?_
      refine z_bipush (pc' := 38) dX9_allowed_36 (by decide) rfl ?_
      refine z_iload (pc' := 40) 5 dX9_allowed_38 rfl rfl ?_
      refine z_imul (pc' := 41) dX9_allowed_40 rfl ?_
      refine z_iadd (pc' := 42) dX9_allowed_41 rfl ?_
      refine z_iconst (pc' := 43) dX9_allowed_42 rfl ?_
      refine z_iadd (pc' := 44) dX9_allowed_43 rfl ?_
      have g11 := zkx_p hsh
      replace hsh := zkx_k hsh
      refine z_iaload (pc' := 45) 0 dX9_allowed_44 rfl hn_p0 g11 rfl ?_
      refine z_iadd (pc' := 46) dX9_allowed_45 rfl ?_
      refine z_istore (pc' := 48) [(6, .int (zi (((f_p0 ((p1 + (240 : Int))).toNat) - (f_p0 (((p1 + ((15 : Int) * p2)) + (0 : Int))).toNat)) + (f_p0 (((p1 + ((15 : Int) * v4)) + (0 : Int))).toNat)))), (0, .ref a_t), (1, .ref a_p0), (2, .int (zi p1)), (3, .int (zi p2)), (4, .int (zi v3)), (5, .int (zi v4))] dX9_allowed_46 (by decide) rfl rfl ?_
      refine z_aload_n (pc' := 49) 1 dX9_allowed_48 rfl rfl rfl ?_
      refine z_iload_n (pc' := 50) 4 dX9_allowed_49 rfl rfl rfl ?_
      refine z_iload (pc' := 52) 6 dX9_allowed_50 rfl rfl ?_
      obtain ⟨q12, h13, hsh⟩ := zbind hsh
      refine z_callV (pc' := 55) (C := RX9) (As := [.int (zi p2), .int (zi v4)]) (rest := []) (wr := [(a_p0, zI J n_p0 f_p0)]) 2 (zc_X9_areBeside l D J F (a_t := a_t) (a_t_now := a_t_now) (a_t_trial := a_t_trial) (a_t_diary := a_t_diary) (a_t_kept := a_t_kept) (a_t_isKept := a_t_isKept) (a_t_script := a_t_script) (a_t_read := a_t_read) (a_t_wanted := a_t_wanted) (a_t_level := a_t_level) (a_t_chosen := a_t_chosen) (a_t_best := a_t_best) (c_t_refusal := c_t_refusal) (c_t_high := c_t_high) (c_t_wide := c_t_wide) (c_t_acts := c_t_acts) (c_t_next := c_t_next) (c_t_scriptSize := c_t_scriptSize) (c_t_spot := c_t_spot) (c_t_readHigh := c_t_readHigh) (c_t_readWide := c_t_readWide) (p0 := p2) (p1 := v4)  q12 h13) dX9_allowed_52 gX9_allowed_X9_areBeside rfl rfl rfl (by decide +kernel) ⟨Nat.le_of_ble_eq_true rfl, Nat.le_of_ble_eq_true rfl⟩ ⟨Nat.le_of_ble_eq_true rfl, Nat.le_of_ble_eq_true rfl⟩ (z_spl_of [1, 0] rfl rfl) rfl rfl rfl rfl (Nat.le_of_ble_eq_true rfl) rfl (fun rv w9 hq => ?_)
      obtain ⟨rfl, rfl⟩ := hq
      refine z_ws [(a_p0, zI J n_p0 f_p0), (a_t, .inr (8, [.int (zi c_t_refusal), .int (zi c_t_high), .int (zi c_t_wide), .ref a_t_now, .ref a_t_trial, .ref a_t_diary, .int (zi c_t_acts), .int (zi c_t_next), .ref a_t_kept, .ref a_t_isKept, .ref a_t_script, .int (zi c_t_scriptSize), .int (zi c_t_spot), .ref a_t_read, .int (zi c_t_readHigh), .int (zi c_t_readWide), .ref a_t_wanted, .ref a_t_level, .ref a_t_chosen, .ref a_t_best]))] rfl ?_
      have g14 := zkr_p hsh
      replace hsh := zkr_k hsh
      refine z_if_eq (pc' := 58) (tgt := 70) dX9_allowed_55 (by decide) g14 rfl (fun q => ?_) (fun q => ?_)
      · replace hsh := zif_t q hsh
        refine z_iload (pc' := 72) 5 dX9_allowed_70 rfl rfl ?_
        refine z_istore (pc' := 74) [(4, .int (zi v3)), (6, .int (zi (((f_p0 ((p1 + (240 : Int))).toNat) - (f_p0 (((p1 + ((15 : Int) * p2)) + (0 : Int))).toNat)) + (f_p0 (((p1 + ((15 : Int) * v4)) + (0 : Int))).toNat)))), (0, .ref a_t), (1, .ref a_p0), (2, .int (zi p1)), (3, .int (zi p2)), (5, .int (zi v4))] dX9_allowed_72 (by decide) rfl rfl ?_
        refine z_iinc (pc' := 77) [(5, .int (zi (v4 + (1 : Int)))), (4, .int (zi v3)), (6, .int (zi (((f_p0 ((p1 + (240 : Int))).toNat) - (f_p0 (((p1 + ((15 : Int) * p2)) + (0 : Int))).toNat)) + (f_p0 (((p1 + ((15 : Int) * v4)) + (0 : Int))).toNat)))), (0, .ref a_t), (1, .ref a_p0), (2, .int (zi p1)), (3, .int (zi p2))] 6 dX9_allowed_74 rfl (by decide) rfl rfl ?_
        refine z_goto (tgt := 7) dX9_allowed_77 (by decide) ?_
        refine z_perm [(a_t, .inr (8, [.int (zi c_t_refusal), .int (zi c_t_high), .int (zi c_t_wide), .ref a_t_now, .ref a_t_trial, .ref a_t_diary, .int (zi c_t_acts), .int (zi c_t_next), .ref a_t_kept, .ref a_t_isKept, .ref a_t_script, .int (zi c_t_scriptSize), .int (zi c_t_spot), .ref a_t_read, .int (zi c_t_readHigh), .int (zi c_t_readWide), .ref a_t_wanted, .ref a_t_level, .ref a_t_chosen, .ref a_t_best])), (a_p0, zI J n_p0 f_p0)] [(0, .ref a_t), (1, .ref a_p0), (2, .int (zi p1)), (3, .int (zi p2)), (4, .int (zi v3)), (5, .int (zi (v4 + (1 : Int))))] [1, 0] [3, 4, 5, 6, 1, 0] rfl rfl rfl ?_
        exact ih _ _ hsh
      · replace hsh := zif_f q hsh
        refine z_iload (pc' := 60) 0 dX9_allowed_58 rfl rfl ?_
        refine z_iload (pc' := 62) 5 dX9_allowed_60 rfl rfl ?_
        have g15 := zkr_p hsh
        replace hsh := zkr_k hsh
        have g16 := zkr_p hsh
        replace hsh := zkr_k hsh
        refine z_icmp_ge (pc' := 65) (tgt := 70) dX9_allowed_62 (by decide) g15 g16 rfl (fun q => ?_) (fun q => ?_)
        · replace hsh := zif_f q hsh
          refine z_iload (pc' := 72) 5 dX9_allowed_70 rfl rfl ?_
          refine z_istore (pc' := 74) [(4, .int (zi v3)), (6, .int (zi (((f_p0 ((p1 + (240 : Int))).toNat) - (f_p0 (((p1 + ((15 : Int) * p2)) + (0 : Int))).toNat)) + (f_p0 (((p1 + ((15 : Int) * v4)) + (0 : Int))).toNat)))), (0, .ref a_t), (1, .ref a_p0), (2, .int (zi p1)), (3, .int (zi p2)), (5, .int (zi v4))] dX9_allowed_72 (by decide) rfl rfl ?_
          refine z_iinc (pc' := 77) [(5, .int (zi (v4 + (1 : Int)))), (4, .int (zi v3)), (6, .int (zi (((f_p0 ((p1 + (240 : Int))).toNat) - (f_p0 (((p1 + ((15 : Int) * p2)) + (0 : Int))).toNat)) + (f_p0 (((p1 + ((15 : Int) * v4)) + (0 : Int))).toNat)))), (0, .ref a_t), (1, .ref a_p0), (2, .int (zi p1)), (3, .int (zi p2))] 6 dX9_allowed_74 rfl (by decide) rfl rfl ?_
          refine z_goto (tgt := 7) dX9_allowed_77 (by decide) ?_
          refine z_perm [(a_t, .inr (8, [.int (zi c_t_refusal), .int (zi c_t_high), .int (zi c_t_wide), .ref a_t_now, .ref a_t_trial, .ref a_t_diary, .int (zi c_t_acts), .int (zi c_t_next), .ref a_t_kept, .ref a_t_isKept, .ref a_t_script, .int (zi c_t_scriptSize), .int (zi c_t_spot), .ref a_t_read, .int (zi c_t_readHigh), .int (zi c_t_readWide), .ref a_t_wanted, .ref a_t_level, .ref a_t_chosen, .ref a_t_best])), (a_p0, zI J n_p0 f_p0)] [(0, .ref a_t), (1, .ref a_p0), (2, .int (zi p1)), (3, .int (zi p2)), (4, .int (zi v3)), (5, .int (zi (v4 + (1 : Int))))] [1, 0] [3, 4, 5, 6, 1, 0] rfl rfl rfl ?_
          exact ih _ _ hsh
        · replace hsh := zif_t q hsh
          refine z_iload (pc' := 67) 0 dX9_allowed_65 rfl rfl ?_
          refine z_goto (tgt := 72) dX9_allowed_67 (by decide) ?_
          refine z_istore (pc' := 74) [(4, .int (zi (((f_p0 ((p1 + (240 : Int))).toNat) - (f_p0 (((p1 + ((15 : Int) * p2)) + (0 : Int))).toNat)) + (f_p0 (((p1 + ((15 : Int) * v4)) + (0 : Int))).toNat)))), (6, .int (zi (((f_p0 ((p1 + (240 : Int))).toNat) - (f_p0 (((p1 + ((15 : Int) * p2)) + (0 : Int))).toNat)) + (f_p0 (((p1 + ((15 : Int) * v4)) + (0 : Int))).toNat)))), (0, .ref a_t), (1, .ref a_p0), (2, .int (zi p1)), (3, .int (zi p2)), (5, .int (zi v4))] dX9_allowed_72 (by decide) rfl rfl ?_
          refine z_iinc (pc' := 77) [(5, .int (zi (v4 + (1 : Int)))), (4, .int (zi (((f_p0 ((p1 + (240 : Int))).toNat) - (f_p0 (((p1 + ((15 : Int) * p2)) + (0 : Int))).toNat)) + (f_p0 (((p1 + ((15 : Int) * v4)) + (0 : Int))).toNat)))), (6, .int (zi (((f_p0 ((p1 + (240 : Int))).toNat) - (f_p0 (((p1 + ((15 : Int) * p2)) + (0 : Int))).toNat)) + (f_p0 (((p1 + ((15 : Int) * v4)) + (0 : Int))).toNat)))), (0, .ref a_t), (1, .ref a_p0), (2, .int (zi p1)), (3, .int (zi p2))] 6 dX9_allowed_74 rfl (by decide) rfl rfl ?_
          refine z_goto (tgt := 7) dX9_allowed_77 (by decide) ?_
          refine z_perm [(a_t, .inr (8, [.int (zi c_t_refusal), .int (zi c_t_high), .int (zi c_t_wide), .ref a_t_now, .ref a_t_trial, .ref a_t_diary, .int (zi c_t_acts), .int (zi c_t_next), .ref a_t_kept, .ref a_t_isKept, .ref a_t_script, .int (zi c_t_scriptSize), .int (zi c_t_spot), .ref a_t_read, .int (zi c_t_readHigh), .int (zi c_t_readWide), .ref a_t_wanted, .ref a_t_level, .ref a_t_chosen, .ref a_t_best])), (a_p0, zI J n_p0 f_p0)] [(0, .ref a_t), (1, .ref a_p0), (2, .int (zi p1)), (3, .int (zi p2)), (4, .int (zi (((f_p0 ((p1 + (240 : Int))).toNat) - (f_p0 (((p1 + ((15 : Int) * p2)) + (0 : Int))).toNat)) + (f_p0 (((p1 + ((15 : Int) * v4)) + (0 : Int))).toNat)))), (5, .int (zi (v4 + (1 : Int))))] [1, 0] [3, 4, 5, 6, 1, 0] rfl rfl rfl ?_
          exact ih _ _ hsh
set_option maxRecDepth 100000 in
set_option maxHeartbeats 4000000 in
theorem zc_X9_allowed (l : Launch) (D : va_G) (J : Nat → ClassId) (F : Nat) (a_t : Nat) (a_p0 : Nat) (a_t_now : Nat) (a_t_trial : Nat) (a_t_diary : Nat) (a_t_kept : Nat) (a_t_isKept : Nat) (a_t_script : Nat) (a_t_read : Nat) (a_t_wanted : Nat) (a_t_level : Nat) (a_t_chosen : Nat) (a_t_best : Nat) (c_t_refusal : Int) (c_t_high : Int) (c_t_wide : Int) (c_t_acts : Int) (c_t_next : Int) (c_t_scriptSize : Int) (c_t_spot : Int) (c_t_readHigh : Int) (c_t_readWide : Int) (f_p0 : Nat → Int) (n_p0 : Nat) (p1 : Int) (p2 : Int) (hn_p0 : n_p0 ≤ 2147483647) (res : Int) (hsh : sh_X9_allowed F c_t_high c_t_wide f_p0 n_p0 p1 p2 = some res) : ZM l D J yX9_allowed wsX9_allowed ({ frames := 1, cells := 0, slots := 0, locals := 24 } : Room) 0 0 [.ref a_t, .ref a_p0, .int (zi p1), .int (zi p2)] [(a_t, .inr (8, [.int (zi c_t_refusal), .int (zi c_t_high), .int (zi c_t_wide), .ref a_t_now, .ref a_t_trial, .ref a_t_diary, .int (zi c_t_acts), .int (zi c_t_next), .ref a_t_kept, .ref a_t_isKept, .ref a_t_script, .int (zi c_t_scriptSize), .int (zi c_t_spot), .ref a_t_read, .int (zi c_t_readHigh), .int (zi c_t_readWide), .ref a_t_wanted, .ref a_t_level, .ref a_t_chosen, .ref a_t_best])), (a_p0, zI J n_p0 f_p0)] (fun rv w9 => rv = some (.int (zi res)) ∧ w9 = [(a_t, .inr (8, [.int (zi c_t_refusal), .int (zi c_t_high), .int (zi c_t_wide), .ref a_t_now, .ref a_t_trial, .ref a_t_diary, .int (zi c_t_acts), .int (zi c_t_next), .ref a_t_kept, .ref a_t_isKept, .ref a_t_script, .int (zi c_t_scriptSize), .int (zi c_t_spot), .ref a_t_read, .int (zi c_t_readHigh), .int (zi c_t_readWide), .ref a_t_wanted, .ref a_t_level, .ref a_t_chosen, .ref a_t_best])), (a_p0, zI J n_p0 f_p0)]) := by
  refine z_ofZ (cc := cX9_allowed) (maxL := 7) (ret := (some .int)) 0 0 (by decide) rfl (Nat.le_of_ble_eq_true rfl) [(0, .ref a_t), (1, .ref a_p0), (2, .int (zi p1)), (3, .int (zi p2))] rfl ?_
  intro p e s m args below meth c A
  unfold sh_X9_allowed at hsh
  refine z_ldc (pc' := 2) (1000000000 : Int) dX9_allowed_0 mX9_allowed_k106 (by decide) rfl ?_
  refine z_istore (pc' := 4) [(4, .int (zi (1000000000 : Int))), (0, .ref a_t), (1, .ref a_p0), (2, .int (zi p1)), (3, .int (zi p2))] dX9_allowed_2 (by decide) rfl rfl ?_
  refine z_iconst (pc' := 5) dX9_allowed_4 rfl ?_
  refine z_istore (pc' := 7) [(5, .int (zi (0 : Int))), (4, .int (zi (1000000000 : Int))), (0, .ref a_t), (1, .ref a_p0), (2, .int (zi p1)), (3, .int (zi p2))] dX9_allowed_5 (by decide) rfl rfl ?_
  refine z_perm [(a_t, .inr (8, [.int (zi c_t_refusal), .int (zi c_t_high), .int (zi c_t_wide), .ref a_t_now, .ref a_t_trial, .ref a_t_diary, .int (zi c_t_acts), .int (zi c_t_next), .ref a_t_kept, .ref a_t_isKept, .ref a_t_script, .int (zi c_t_scriptSize), .int (zi c_t_spot), .ref a_t_read, .int (zi c_t_readHigh), .int (zi c_t_readWide), .ref a_t_wanted, .ref a_t_level, .ref a_t_chosen, .ref a_t_best])), (a_p0, zI J n_p0 f_p0)] [(0, .ref a_t), (1, .ref a_p0), (2, .int (zi p1)), (3, .int (zi p2)), (4, .int (zi (1000000000 : Int))), (5, .int (zi (0 : Int)))] [0, 1] [2, 3, 4, 5, 1, 0] rfl rfl rfl ?_
  refine zl_X9_allowed_L7 (F := F) (hn_p0 := hn_p0) (hk := fun v17 v18 hsh => ?_) _ _ _ hsh
  refine z_iload (pc' := 82) 0 dX9_allowed_80 rfl rfl ?_
  cases hsh
  exact z_iret rfl dX9_allowed_82 ⟨rfl, rfl⟩
def sh_X9_slackOf (F : Nat) (c_t_high : Int) (c_t_wide : Int) (f_p0 : Nat → Int) (n_p0 : Nat) (p1 : Int) (p2 : Int) : Option (Int) := zkx ((p1 + ((15 : Int) * p2)) + (1 : Int)) n_p0 (zkr (f_p0 (((p1 + ((15 : Int) * p2)) + (1 : Int))).toNat) (if (f_p0 (((p1 + ((15 : Int) * p2)) + (1 : Int))).toNat) = (1 : Int) then some ((0 : Int)) else (sh_X9_remainingOf F f_p0 n_p0 p1 p2).bind (fun (q3 : Int) => (sh_X9_allowed F c_t_high c_t_wide f_p0 n_p0 p1 p2).bind (fun (q5 : Int) => zkr q5 (zkr q3 (if q5 < q3 then some (q5) else some (q3)))))))
set_option maxRecDepth 100000 in
set_option maxHeartbeats 4000000 in
theorem zc_X9_slackOf (l : Launch) (D : va_G) (J : Nat → ClassId) (F : Nat) (a_t : Nat) (a_p0 : Nat) (a_t_now : Nat) (a_t_trial : Nat) (a_t_diary : Nat) (a_t_kept : Nat) (a_t_isKept : Nat) (a_t_script : Nat) (a_t_read : Nat) (a_t_wanted : Nat) (a_t_level : Nat) (a_t_chosen : Nat) (a_t_best : Nat) (c_t_refusal : Int) (c_t_high : Int) (c_t_wide : Int) (c_t_acts : Int) (c_t_next : Int) (c_t_scriptSize : Int) (c_t_spot : Int) (c_t_readHigh : Int) (c_t_readWide : Int) (f_p0 : Nat → Int) (n_p0 : Nat) (p1 : Int) (p2 : Int) (hn_p0 : n_p0 ≤ 2147483647) (res : Int) (hsh : sh_X9_slackOf F c_t_high c_t_wide f_p0 n_p0 p1 p2 = some res) : ZM l D J yX9_slackOf wsX9_slackOf ({ frames := 2, cells := 0, slots := 0, locals := 50 } : Room) 0 0 [.ref a_t, .ref a_p0, .int (zi p1), .int (zi p2)] [(a_t, .inr (8, [.int (zi c_t_refusal), .int (zi c_t_high), .int (zi c_t_wide), .ref a_t_now, .ref a_t_trial, .ref a_t_diary, .int (zi c_t_acts), .int (zi c_t_next), .ref a_t_kept, .ref a_t_isKept, .ref a_t_script, .int (zi c_t_scriptSize), .int (zi c_t_spot), .ref a_t_read, .int (zi c_t_readHigh), .int (zi c_t_readWide), .ref a_t_wanted, .ref a_t_level, .ref a_t_chosen, .ref a_t_best])), (a_p0, zI J n_p0 f_p0)] (fun rv w9 => rv = some (.int (zi res)) ∧ w9 = [(a_t, .inr (8, [.int (zi c_t_refusal), .int (zi c_t_high), .int (zi c_t_wide), .ref a_t_now, .ref a_t_trial, .ref a_t_diary, .int (zi c_t_acts), .int (zi c_t_next), .ref a_t_kept, .ref a_t_isKept, .ref a_t_script, .int (zi c_t_scriptSize), .int (zi c_t_spot), .ref a_t_read, .int (zi c_t_readHigh), .int (zi c_t_readWide), .ref a_t_wanted, .ref a_t_level, .ref a_t_chosen, .ref a_t_best])), (a_p0, zI J n_p0 f_p0)]) := by
  refine z_ofZ (cc := cX9_slackOf) (maxL := 6) (ret := (some .int)) 0 0 (by decide) rfl (Nat.le_of_ble_eq_true rfl) [(0, .ref a_t), (1, .ref a_p0), (2, .int (zi p1)), (3, .int (zi p2))] rfl ?_
  intro p e s m args below meth c A
  unfold sh_X9_slackOf at hsh
  refine z_aload_n (pc' := 1) 1 dX9_slackOf_0 rfl rfl rfl ?_
  refine z_iload_n (pc' := 2) 2 dX9_slackOf_1 rfl rfl rfl ?_
  refine z_bipush (pc' := 4) dX9_slackOf_2 (by decide) rfl ?_
  refine z_iload_n (pc' := 5) 3 dX9_slackOf_4 rfl rfl rfl ?_
  refine z_imul (pc' := 6) dX9_slackOf_5 rfl ?_
  refine z_iadd (pc' := 7) dX9_slackOf_6 rfl ?_
  refine z_iconst (pc' := 8) dX9_slackOf_7 rfl ?_
  refine z_iadd (pc' := 9) dX9_slackOf_8 rfl ?_
  have g1 := zkx_p hsh
  replace hsh := zkx_k hsh
  refine z_iaload (pc' := 10) 1 dX9_slackOf_9 rfl hn_p0 g1 rfl ?_
  refine z_iconst (pc' := 11) dX9_slackOf_10 rfl ?_
  have g2 := zkr_p hsh
  replace hsh := zkr_k hsh
  refine z_icmp_ne (pc' := 14) (tgt := 16) dX9_slackOf_11 (by decide) g2 (by decide) rfl (fun q => ?_) (fun q => ?_)
  · replace hsh := zif_f q hsh
    refine z_aload_n (pc' := 17) 1 dX9_slackOf_16 rfl rfl rfl ?_
    refine z_iload_n (pc' := 18) 2 dX9_slackOf_17 rfl rfl rfl ?_
    refine z_iload_n (pc' := 19) 3 dX9_slackOf_18 rfl rfl rfl ?_
    obtain ⟨q3, h4, hsh⟩ := zbind hsh
    refine z_callS (pc' := 22) (As := [.ref a_p0, .int (zi p1), .int (zi p2)]) (rest := []) (wr := [(a_t, .inr (8, [.int (zi c_t_refusal), .int (zi c_t_high), .int (zi c_t_wide), .ref a_t_now, .ref a_t_trial, .ref a_t_diary, .int (zi c_t_acts), .int (zi c_t_next), .ref a_t_kept, .ref a_t_isKept, .ref a_t_script, .int (zi c_t_scriptSize), .int (zi c_t_spot), .ref a_t_read, .int (zi c_t_readHigh), .int (zi c_t_readWide), .ref a_t_wanted, .ref a_t_level, .ref a_t_chosen, .ref a_t_best]))]) 3 (zc_X9_remainingOf l D J F (a_p0 := a_p0) (f_p0 := f_p0) (n_p0 := n_p0) (p1 := p1) (p2 := p2) (hn_p0 := hn_p0) q3 h4) dX9_slackOf_19 gX9_slackOf_X9_remainingOf rfl rfl rfl (by decide +kernel) ⟨Nat.le_of_ble_eq_true rfl, Nat.le_of_ble_eq_true rfl⟩ ⟨Nat.le_of_ble_eq_true rfl, Nat.le_of_ble_eq_true rfl⟩ (z_spl_of [1, 0] rfl rfl) rfl rfl (Nat.le_of_ble_eq_true rfl) rfl (fun rv w9 hq => ?_)
    obtain ⟨rfl, rfl⟩ := hq
    refine z_ws [(a_t, .inr (8, [.int (zi c_t_refusal), .int (zi c_t_high), .int (zi c_t_wide), .ref a_t_now, .ref a_t_trial, .ref a_t_diary, .int (zi c_t_acts), .int (zi c_t_next), .ref a_t_kept, .ref a_t_isKept, .ref a_t_script, .int (zi c_t_scriptSize), .int (zi c_t_spot), .ref a_t_read, .int (zi c_t_readHigh), .int (zi c_t_readWide), .ref a_t_wanted, .ref a_t_level, .ref a_t_chosen, .ref a_t_best])), (a_p0, zI J n_p0 f_p0)] rfl ?_
    refine z_istore (pc' := 24) [(4, .int (zi q3)), (0, .ref a_t), (1, .ref a_p0), (2, .int (zi p1)), (3, .int (zi p2))] dX9_slackOf_22 (by decide) rfl rfl ?_
    refine z_aload_n (pc' := 25) 1 dX9_slackOf_24 rfl rfl rfl ?_
    refine z_aload_n (pc' := 26) 2 dX9_slackOf_25 rfl rfl rfl ?_
    refine z_iload_n (pc' := 27) 3 dX9_slackOf_26 rfl rfl rfl ?_
    refine z_iload_n (pc' := 28) 4 dX9_slackOf_27 rfl rfl rfl ?_
    obtain ⟨q5, h6, hsh⟩ := zbind hsh
    refine z_callV (pc' := 31) (C := RX9) (As := [.ref a_p0, .int (zi p1), .int (zi p2)]) (rest := []) (wr := []) 3 (zc_X9_allowed l D J F (a_t := a_t) (a_p0 := a_p0) (a_t_now := a_t_now) (a_t_trial := a_t_trial) (a_t_diary := a_t_diary) (a_t_kept := a_t_kept) (a_t_isKept := a_t_isKept) (a_t_script := a_t_script) (a_t_read := a_t_read) (a_t_wanted := a_t_wanted) (a_t_level := a_t_level) (a_t_chosen := a_t_chosen) (a_t_best := a_t_best) (c_t_refusal := c_t_refusal) (c_t_high := c_t_high) (c_t_wide := c_t_wide) (c_t_acts := c_t_acts) (c_t_next := c_t_next) (c_t_scriptSize := c_t_scriptSize) (c_t_spot := c_t_spot) (c_t_readHigh := c_t_readHigh) (c_t_readWide := c_t_readWide) (f_p0 := f_p0) (n_p0 := n_p0) (p1 := p1) (p2 := p2) (hn_p0 := hn_p0) q5 h6) dX9_slackOf_28 gX9_slackOf_X9_allowed rfl rfl rfl (by decide +kernel) ⟨Nat.le_of_ble_eq_true rfl, Nat.le_of_ble_eq_true rfl⟩ ⟨Nat.le_of_ble_eq_true rfl, Nat.le_of_ble_eq_true rfl⟩ (z_spl_of [0, 1] rfl rfl) rfl rfl rfl rfl (Nat.le_of_ble_eq_true rfl) rfl (fun rv w9 hq => ?_)
    obtain ⟨rfl, rfl⟩ := hq
    refine z_ws [(a_t, .inr (8, [.int (zi c_t_refusal), .int (zi c_t_high), .int (zi c_t_wide), .ref a_t_now, .ref a_t_trial, .ref a_t_diary, .int (zi c_t_acts), .int (zi c_t_next), .ref a_t_kept, .ref a_t_isKept, .ref a_t_script, .int (zi c_t_scriptSize), .int (zi c_t_spot), .ref a_t_read, .int (zi c_t_readHigh), .int (zi c_t_readWide), .ref a_t_wanted, .ref a_t_level, .ref a_t_chosen, .ref a_t_best])), (a_p0, zI J n_p0 f_p0)] rfl ?_
    refine z_istore (pc' := 33) [(5, .int (zi q5)), (4, .int (zi q3)), (0, .ref a_t), (1, .ref a_p0), (2, .int (zi p1)), (3, .int (zi p2))] dX9_slackOf_31 (by decide) rfl rfl ?_
    refine z_iload (pc' := 35) 0 dX9_slackOf_33 rfl rfl ?_
    refine z_iload (pc' := 37) 1 dX9_slackOf_35 rfl rfl ?_
    have g7 := zkr_p hsh
    replace hsh := zkr_k hsh
    have g8 := zkr_p hsh
    replace hsh := zkr_k hsh
    refine z_icmp_ge (pc' := 40) (tgt := 45) dX9_slackOf_37 (by decide) g7 g8 rfl (fun q => ?_) (fun q => ?_)
    · replace hsh := zif_f q hsh
      refine z_iload (pc' := 47) 1 dX9_slackOf_45 rfl rfl ?_
      cases hsh
      exact z_iret rfl dX9_slackOf_47 ⟨rfl, rfl⟩
    · replace hsh := zif_t q hsh
      refine z_iload (pc' := 42) 0 dX9_slackOf_40 rfl rfl ?_
      refine z_goto (tgt := 47) dX9_slackOf_42 (by decide) ?_
      cases hsh
      exact z_iret rfl dX9_slackOf_47 ⟨rfl, rfl⟩
  · replace hsh := zif_t q hsh
    refine z_iconst (pc' := 15) dX9_slackOf_14 rfl ?_
    cases hsh
    exact z_iret rfl dX9_slackOf_15 ⟨rfl, rfl⟩
def sh_X9_isReadyIn (F : Nat) (c_t_high : Int) (c_t_wide : Int) (f_p0 : Nat → Int) (n_p0 : Nat) (p1 : Int) (p2 : Int) : Option (Int) := (sh_X9_slackOf F c_t_high c_t_wide f_p0 n_p0 p1 p2).bind (fun (q1 : Int) => zkr q1 (if (0 : Int) < q1 then some ((1 : Int)) else some ((0 : Int))))
set_option maxRecDepth 100000 in
set_option maxHeartbeats 4000000 in
theorem zc_X9_isReadyIn (l : Launch) (D : va_G) (J : Nat → ClassId) (F : Nat) (a_t : Nat) (a_p0 : Nat) (a_t_now : Nat) (a_t_trial : Nat) (a_t_diary : Nat) (a_t_kept : Nat) (a_t_isKept : Nat) (a_t_script : Nat) (a_t_read : Nat) (a_t_wanted : Nat) (a_t_level : Nat) (a_t_chosen : Nat) (a_t_best : Nat) (c_t_refusal : Int) (c_t_high : Int) (c_t_wide : Int) (c_t_acts : Int) (c_t_next : Int) (c_t_scriptSize : Int) (c_t_spot : Int) (c_t_readHigh : Int) (c_t_readWide : Int) (f_p0 : Nat → Int) (n_p0 : Nat) (p1 : Int) (p2 : Int) (hn_p0 : n_p0 ≤ 2147483647) (res : Int) (hsh : sh_X9_isReadyIn F c_t_high c_t_wide f_p0 n_p0 p1 p2 = some res) : ZM l D J yX9_isReadyIn wsX9_isReadyIn ({ frames := 3, cells := 0, slots := 0, locals := 75 } : Room) 0 0 [.ref a_t, .ref a_p0, .int (zi p1), .int (zi p2)] [(a_t, .inr (8, [.int (zi c_t_refusal), .int (zi c_t_high), .int (zi c_t_wide), .ref a_t_now, .ref a_t_trial, .ref a_t_diary, .int (zi c_t_acts), .int (zi c_t_next), .ref a_t_kept, .ref a_t_isKept, .ref a_t_script, .int (zi c_t_scriptSize), .int (zi c_t_spot), .ref a_t_read, .int (zi c_t_readHigh), .int (zi c_t_readWide), .ref a_t_wanted, .ref a_t_level, .ref a_t_chosen, .ref a_t_best])), (a_p0, zI J n_p0 f_p0)] (fun rv w9 => rv = some (.int (zi res)) ∧ w9 = [(a_t, .inr (8, [.int (zi c_t_refusal), .int (zi c_t_high), .int (zi c_t_wide), .ref a_t_now, .ref a_t_trial, .ref a_t_diary, .int (zi c_t_acts), .int (zi c_t_next), .ref a_t_kept, .ref a_t_isKept, .ref a_t_script, .int (zi c_t_scriptSize), .int (zi c_t_spot), .ref a_t_read, .int (zi c_t_readHigh), .int (zi c_t_readWide), .ref a_t_wanted, .ref a_t_level, .ref a_t_chosen, .ref a_t_best])), (a_p0, zI J n_p0 f_p0)]) := by
  refine z_ofZ (cc := cX9_isReadyIn) (maxL := 4) (ret := (some .boolean)) 0 0 (by decide) rfl (Nat.le_of_ble_eq_true rfl) [(0, .ref a_t), (1, .ref a_p0), (2, .int (zi p1)), (3, .int (zi p2))] rfl ?_
  intro p e s m args below meth c A
  unfold sh_X9_isReadyIn at hsh
  refine z_aload_n (pc' := 1) 0 dX9_isReadyIn_0 rfl rfl rfl ?_
  refine z_aload_n (pc' := 2) 1 dX9_isReadyIn_1 rfl rfl rfl ?_
  refine z_iload_n (pc' := 3) 2 dX9_isReadyIn_2 rfl rfl rfl ?_
  refine z_iload_n (pc' := 4) 3 dX9_isReadyIn_3 rfl rfl rfl ?_
  obtain ⟨q1, h2, hsh⟩ := zbind hsh
  refine z_callV (pc' := 7) (C := RX9) (As := [.ref a_p0, .int (zi p1), .int (zi p2)]) (rest := []) (wr := []) 3 (zc_X9_slackOf l D J F (a_t := a_t) (a_p0 := a_p0) (a_t_now := a_t_now) (a_t_trial := a_t_trial) (a_t_diary := a_t_diary) (a_t_kept := a_t_kept) (a_t_isKept := a_t_isKept) (a_t_script := a_t_script) (a_t_read := a_t_read) (a_t_wanted := a_t_wanted) (a_t_level := a_t_level) (a_t_chosen := a_t_chosen) (a_t_best := a_t_best) (c_t_refusal := c_t_refusal) (c_t_high := c_t_high) (c_t_wide := c_t_wide) (c_t_acts := c_t_acts) (c_t_next := c_t_next) (c_t_scriptSize := c_t_scriptSize) (c_t_spot := c_t_spot) (c_t_readHigh := c_t_readHigh) (c_t_readWide := c_t_readWide) (f_p0 := f_p0) (n_p0 := n_p0) (p1 := p1) (p2 := p2) (hn_p0 := hn_p0) q1 h2) dX9_isReadyIn_4 gX9_isReadyIn_X9_slackOf rfl rfl rfl (by decide +kernel) ⟨Nat.le_of_ble_eq_true rfl, Nat.le_of_ble_eq_true rfl⟩ ⟨Nat.le_of_ble_eq_true rfl, Nat.le_of_ble_eq_true rfl⟩ (z_spl_of [0, 1] rfl rfl) rfl rfl rfl rfl (Nat.le_of_ble_eq_true rfl) rfl (fun rv w9 hq => ?_)
  obtain ⟨rfl, rfl⟩ := hq
  refine z_ws [(a_t, .inr (8, [.int (zi c_t_refusal), .int (zi c_t_high), .int (zi c_t_wide), .ref a_t_now, .ref a_t_trial, .ref a_t_diary, .int (zi c_t_acts), .int (zi c_t_next), .ref a_t_kept, .ref a_t_isKept, .ref a_t_script, .int (zi c_t_scriptSize), .int (zi c_t_spot), .ref a_t_read, .int (zi c_t_readHigh), .int (zi c_t_readWide), .ref a_t_wanted, .ref a_t_level, .ref a_t_chosen, .ref a_t_best])), (a_p0, zI J n_p0 f_p0)] rfl ?_
  have g3 := zkr_p hsh
  replace hsh := zkr_k hsh
  refine z_if_le (pc' := 10) (tgt := 14) dX9_isReadyIn_7 (by decide) g3 rfl (fun q => ?_) (fun q => ?_)
  · replace hsh := zif_f q hsh
    refine z_iconst (pc' := 15) dX9_isReadyIn_14 rfl ?_
    cases hsh
    exact z_zret rfl (by decide) dX9_isReadyIn_15 ⟨rfl, rfl⟩
  · replace hsh := zif_t q hsh
    refine z_iconst (pc' := 11) dX9_isReadyIn_10 rfl ?_
    refine z_goto (tgt := 15) dX9_isReadyIn_11 (by decide) ?_
    cases hsh
    exact z_zret rfl (by decide) dX9_isReadyIn_15 ⟨rfl, rfl⟩
