def sh_X9_runScript_L58 (F : Nat) (p0 : Int) (p1 : Int) (c_t_high : Int) (c_t_wide : Int) (q5 : Int × Int) (k : Int → (Nat → Int) → Option (Int × Int × (Nat → Int))) : Nat → Int → (Nat → Int) → Option (Int × Int × (Nat → Int))
  | 0, _, _ => none
  | N + 1, v13, v14 => zkr v13 (zkr p0 (if v13 < p0 then (sh_X9_tens F ((4 : Int) * ((p0 - (1 : Int)) - v13))).bind (fun (q17 : Int) => zkl p1 (zkl q17 (zkc (¬ q17 = 0) (zkl (zdiv p1 q17) ((sh_X9_command F c_t_high c_t_wide v14 (zmod (zdiv p1 q17) (10000 : Int))).bind (fun (q23 : Int × (Nat → Int)) => zkr q23.1 (if q23.1 = (0 : Int) then some (v13, q5.2, q23.2) else sh_X9_runScript_L58 F p0 p1 c_t_high c_t_wide q5 k N (v13 + (1 : Int)) q23.2))))))) else k v13 v14))
def sh_X9_runScript_L58_2 (F : Nat) (p0 : Int) (p1 : Int) (c_t_high : Int) (c_t_wide : Int) (q33 : Int × Int) (k : Int → (Nat → Int) → Option (Int × Int × (Nat → Int))) : Nat → Int → (Nat → Int) → Option (Int × Int × (Nat → Int))
  | 0, _, _ => none
  | N + 1, v41, v42 => zkr v41 (zkr p0 (if v41 < p0 then (sh_X9_tens F ((4 : Int) * ((p0 - (1 : Int)) - v41))).bind (fun (q45 : Int) => zkl p1 (zkl q45 (zkc (¬ q45 = 0) (zkl (zdiv p1 q45) ((sh_X9_command F c_t_high c_t_wide v42 (zmod (zdiv p1 q45) (10000 : Int))).bind (fun (q51 : Int × (Nat → Int)) => zkr q51.1 (if q51.1 = (0 : Int) then some (v41, q33.2, q51.2) else sh_X9_runScript_L58_2 F p0 p1 c_t_high c_t_wide q33 k N (v41 + (1 : Int)) q51.2))))))) else k v41 v42))
def sh_X9_runScript_L58_3 (F : Nat) (p0 : Int) (p1 : Int) (c_t_high : Int) (c_t_wide : Int) (q56 : Int × Int) (k : Int → (Nat → Int) → Option (Int × Int × (Nat → Int))) : Nat → Int → (Nat → Int) → Option (Int × Int × (Nat → Int))
  | 0, _, _ => none
  | N + 1, v64, v65 => zkr v64 (zkr p0 (if v64 < p0 then (sh_X9_tens F ((4 : Int) * ((p0 - (1 : Int)) - v64))).bind (fun (q68 : Int) => zkl p1 (zkl q68 (zkc (¬ q68 = 0) (zkl (zdiv p1 q68) ((sh_X9_command F c_t_high c_t_wide v65 (zmod (zdiv p1 q68) (10000 : Int))).bind (fun (q74 : Int × (Nat → Int)) => zkr q74.1 (if q74.1 = (0 : Int) then some (v64, q56.2, q74.2) else sh_X9_runScript_L58_3 F p0 p1 c_t_high c_t_wide q56 k N (v64 + (1 : Int)) q74.2))))))) else k v64 v65))
def sh_X9_runScript (F : Nat) (c_t_high : Int) (c_t_wide : Int) (f_t_now : Nat → Int) (f_t_trial : Nat → Int) (p0 : Int) (p1 : Int) : Option (Int × Int × (Nat → Int)) := zkr p0 ((sh_X9_in F p0 (1 : Int) (4 : Int)).bind (fun (q2 : Int) => zkr q2 (if q2 = (0 : Int) then (sh_X9_refused F (1 : Int)).bind (fun (q5 : Int × Int) => zkr q5.1 (if q5.1 = (0 : Int) then (sh_X9_copy F f_t_now f_t_trial 243 243 (0 : Int) (0 : Int)).bind (fun (q8 : (Nat → Int)) => sh_X9_runScript_L58 F p0 p1 c_t_high c_t_wide q5 (fun (v26 : Int) (v27 : (Nat → Int)) => some ((-9 : Int), q5.2, v27)) F (0 : Int) q8) else some ((0 : Int), q5.2, f_t_trial))) else (sh_X9_tens F ((4 : Int) * p0)).bind (fun (q28 : Int) => (sh_X9_in F p1 (0 : Int) (q28 - (1 : Int))).bind (fun (q30 : Int) => zkr q30 (if q30 = (0 : Int) then (sh_X9_refused F (1 : Int)).bind (fun (q33 : Int × Int) => zkr q33.1 (if q33.1 = (0 : Int) then (sh_X9_copy F f_t_now f_t_trial 243 243 (0 : Int) (0 : Int)).bind (fun (q36 : (Nat → Int)) => sh_X9_runScript_L58_2 F p0 p1 c_t_high c_t_wide q33 (fun (v54 : Int) (v55 : (Nat → Int)) => some ((-9 : Int), q33.2, v55)) F (0 : Int) q36) else some ((0 : Int), q33.2, f_t_trial))) else (sh_X9_refused F (0 : Int)).bind (fun (q56 : Int × Int) => zkr q56.1 (if q56.1 = (0 : Int) then (sh_X9_copy F f_t_now f_t_trial 243 243 (0 : Int) (0 : Int)).bind (fun (q59 : (Nat → Int)) => sh_X9_runScript_L58_3 F p0 p1 c_t_high c_t_wide q56 (fun (v77 : Int) (v78 : (Nat → Int)) => some ((-9 : Int), q56.2, v78)) F (0 : Int) q59) else some ((0 : Int), q56.2, f_t_trial)))))))))
theorem mX9_runScript_k165 : Cond.constantLong RX9 165 (4) ∈ wsX9_runScript := List.mem_of_getElem? (i := 1) rfl
theorem mX9_runScript_f16 : Cond.fieldLink RX9 16 (TX9 3).1 (TX9 3).2.1 (TX9 3).2.2.1 ∈ wsX9_runScript := List.mem_of_getElem? (i := 2) rfl
theorem iX9_runScript_X9 : ∀ w ∈ wsX90, w ∈ wsX9_runScript := fun _ h => (List.mem_cons_of_mem _ (List.mem_append_right _ h))
theorem mX9_runScript_f20 : Cond.fieldLink RX9 20 (TX9 4).1 (TX9 4).2.1 (TX9 4).2.2.1 ∈ wsX9_runScript := List.mem_of_getElem? (i := 3) rfl
theorem mX9_runScript_k183 : Cond.constantLong RX9 183 (10000) ∈ wsX9_runScript := List.mem_of_getElem? (i := 4) rfl
set_option maxRecDepth 100000 in
set_option maxHeartbeats 4000000 in
theorem zl_X9_runScript_L58 {p : Program} {l : Launch} {e : Env} {s : State} {m : MethodId} {args : Array Value} {below : List Frame} {meth : Method} {c : Code} {A : Nat → Prop} {D : va_G} {J : Nat → ClassId} {F : Nat} {p0 : Int} {p1 : Int} {c_t_high : Int} {c_t_wide : Int} {q5 : Int × Int} {a_t : Nat} {a_t_now : Nat} {a_t_trial : Nat} {a_t_diary : Nat} {c_t_acts : Int} {c_t_next : Int} {a_t_kept : Nat} {a_t_isKept : Nat} {a_t_script : Nat} {c_t_scriptSize : Int} {c_t_spot : Int} {a_t_read : Nat} {c_t_readHigh : Int} {c_t_readWide : Int} {a_t_wanted : Nat} {a_t_level : Nat} {a_t_chosen : Nat} {a_t_best : Nat} {f_t_now : Nat → Int} {res : Int × Int × (Nat → Int)} {k : Int → (Nat → Int) → Option (Int × Int × (Nat → Int))} (hk : ∀ (v13' : Int) (v14' : (Nat → Int)), k v13' v14' = some res → Z p l e ({ frames := 6, cells := 0, slots := 0, locals := 151 } : Room) s m args below meth c (MQ below (zQ D J A (fun rv w9 => rv = some (.int (zi res.1)) ∧ w9 = [(a_t, .inr (8, [.int (zi res.2.1), .int (zi c_t_high), .int (zi c_t_wide), .ref a_t_now, .ref a_t_trial, .ref a_t_diary, .int (zi c_t_acts), .int (zi c_t_next), .ref a_t_kept, .ref a_t_isKept, .ref a_t_script, .int (zi c_t_scriptSize), .int (zi c_t_spot), .ref a_t_read, .int (zi c_t_readHigh), .int (zi c_t_readWide), .ref a_t_wanted, .ref a_t_level, .ref a_t_chosen, .ref a_t_best])), (a_t_now, zI J 243 f_t_now), (a_t_trial, zI J 243 res.2.2)])) args s 0 0 A) cX9_runScript 5 wsX9_runScript RX9 D J A (some .int) (yX9_runScript.name, []) 0 0 [(a_t, .inr (8, [.int (zi q5.2), .int (zi c_t_high), .int (zi c_t_wide), .ref a_t_now, .ref a_t_trial, .ref a_t_diary, .int (zi c_t_acts), .int (zi c_t_next), .ref a_t_kept, .ref a_t_isKept, .ref a_t_script, .int (zi c_t_scriptSize), .int (zi c_t_spot), .ref a_t_read, .int (zi c_t_readHigh), .int (zi c_t_readWide), .ref a_t_wanted, .ref a_t_level, .ref a_t_chosen, .ref a_t_best])), (a_t_now, zI J 243 f_t_now), (a_t_trial, zI J 243 v14')] [] 98 []) : ∀ (N : Nat) (v13 : Int) (v14 : (Nat → Int)), sh_X9_runScript_L58 F p0 p1 c_t_high c_t_wide q5 k N v13 v14 = some res → Z p l e ({ frames := 6, cells := 0, slots := 0, locals := 151 } : Room) s m args below meth c (MQ below (zQ D J A (fun rv w9 => rv = some (.int (zi res.1)) ∧ w9 = [(a_t, .inr (8, [.int (zi res.2.1), .int (zi c_t_high), .int (zi c_t_wide), .ref a_t_now, .ref a_t_trial, .ref a_t_diary, .int (zi c_t_acts), .int (zi c_t_next), .ref a_t_kept, .ref a_t_isKept, .ref a_t_script, .int (zi c_t_scriptSize), .int (zi c_t_spot), .ref a_t_read, .int (zi c_t_readHigh), .int (zi c_t_readWide), .ref a_t_wanted, .ref a_t_level, .ref a_t_chosen, .ref a_t_best])), (a_t_now, zI J 243 f_t_now), (a_t_trial, zI J 243 res.2.2)])) args s 0 0 A) cX9_runScript 5 wsX9_runScript RX9 D J A (some .int) (yX9_runScript.name, []) 0 0 [(a_t, .inr (8, [.int (zi q5.2), .int (zi c_t_high), .int (zi c_t_wide), .ref a_t_now, .ref a_t_trial, .ref a_t_diary, .int (zi c_t_acts), .int (zi c_t_next), .ref a_t_kept, .ref a_t_isKept, .ref a_t_script, .int (zi c_t_scriptSize), .int (zi c_t_spot), .ref a_t_read, .int (zi c_t_readHigh), .int (zi c_t_readWide), .ref a_t_wanted, .ref a_t_level, .ref a_t_chosen, .ref a_t_best])), (a_t_now, zI J 243 f_t_now), (a_t_trial, zI J 243 v14)] [(0, .ref a_t), (1, .int (zi p0)), (2, .long (zl p1)), (4, .int (zi v13))] 58 [] := by
  intro N
  induction N with
  | zero =>
    intro v13 v14 hsh
    exact absurd hsh (by simp [sh_X9_runScript_L58])
  | succ N ih =>
    intro v13 v14 hsh
    rw [sh_X9_runScript_L58] at hsh
    refine z_iload (pc' := 60) 3 dX9_runScript_58 rfl rfl ?_
    refine z_iload_n (pc' := 61) 1 dX9_runScript_60 rfl rfl rfl ?_
    have g15 := zkr_p hsh
    replace hsh := zkr_k hsh
    have g16 := zkr_p hsh
    replace hsh := zkr_k hsh
    refine z_icmp_ge (pc' := 64) (tgt := 98) dX9_runScript_61 (by decide) g15 g16 rfl (fun q => ?_) (fun q => ?_)
    · replace hsh := zif_f q hsh
      refine z_perm [(a_t, .inr (8, [.int (zi q5.2), .int (zi c_t_high), .int (zi c_t_wide), .ref a_t_now, .ref a_t_trial, .ref a_t_diary, .int (zi c_t_acts), .int (zi c_t_next), .ref a_t_kept, .ref a_t_isKept, .ref a_t_script, .int (zi c_t_scriptSize), .int (zi c_t_spot), .ref a_t_read, .int (zi c_t_readHigh), .int (zi c_t_readWide), .ref a_t_wanted, .ref a_t_level, .ref a_t_chosen, .ref a_t_best])), (a_t_now, zI J 243 f_t_now), (a_t_trial, zI J 243 v14)] [] [0, 1, 2] [] rfl rfl rfl ?_
      exact hk _ _ hsh
    · replace hsh := zif_t q hsh
      refine z_aload_n (pc' := 65) 0 dX9_runScript_64 rfl rfl rfl ?_
      refine z_lload_n (pc' := 66) 2 dX9_runScript_65 rfl rfl rfl ?_
      refine z_iconst (pc' := 67) dX9_runScript_66 rfl ?_
      refine z_iload_n (pc' := 68) 1 dX9_runScript_67 rfl rfl rfl ?_
      refine z_iconst (pc' := 69) dX9_runScript_68 rfl ?_
      refine z_isub (pc' := 70) dX9_runScript_69 rfl ?_
      refine z_iload (pc' := 72) 3 dX9_runScript_70 rfl rfl ?_
      refine z_isub (pc' := 73) dX9_runScript_72 rfl ?_
      refine z_imul (pc' := 74) dX9_runScript_73 rfl ?_
      obtain ⟨q17, h18, hsh⟩ := zbind hsh
      refine z_callS (pc' := 77) (As := [.int (zi ((4 : Int) * ((p0 - (1 : Int)) - v13)))]) (rest := [.long (zl p1), .ref a_t]) (wr := [(a_t, .inr (8, [.int (zi q5.2), .int (zi c_t_high), .int (zi c_t_wide), .ref a_t_now, .ref a_t_trial, .ref a_t_diary, .int (zi c_t_acts), .int (zi c_t_next), .ref a_t_kept, .ref a_t_isKept, .ref a_t_script, .int (zi c_t_scriptSize), .int (zi c_t_spot), .ref a_t_read, .int (zi c_t_readHigh), .int (zi c_t_readWide), .ref a_t_wanted, .ref a_t_level, .ref a_t_chosen, .ref a_t_best])), (a_t_now, zI J 243 f_t_now), (a_t_trial, zI J 243 v14)]) 1 (zc_X9_tens l D J F (p0 := ((4 : Int) * ((p0 - (1 : Int)) - v13)))  q17 h18) dX9_runScript_74 gX9_runScript_X9_tens rfl rfl rfl (by decide +kernel) ⟨Nat.le_of_ble_eq_true rfl, Nat.le_of_ble_eq_true rfl⟩ ⟨Nat.le_of_ble_eq_true rfl, Nat.le_of_ble_eq_true rfl⟩ (z_spl_of [0, 1, 2] rfl rfl) rfl rfl (Nat.le_of_ble_eq_true rfl) rfl (fun rv w9 hq => ?_)
      obtain ⟨rfl, rfl⟩ := hq
      refine z_ws [(a_t, .inr (8, [.int (zi q5.2), .int (zi c_t_high), .int (zi c_t_wide), .ref a_t_now, .ref a_t_trial, .ref a_t_diary, .int (zi c_t_acts), .int (zi c_t_next), .ref a_t_kept, .ref a_t_isKept, .ref a_t_script, .int (zi c_t_scriptSize), .int (zi c_t_spot), .ref a_t_read, .int (zi c_t_readHigh), .int (zi c_t_readWide), .ref a_t_wanted, .ref a_t_level, .ref a_t_chosen, .ref a_t_best])), (a_t_now, zI J 243 f_t_now), (a_t_trial, zI J 243 v14)] rfl ?_
      have g19 := zkl_p hsh
      replace hsh := zkl_k hsh
      have g20 := zkl_p hsh
      replace hsh := zkl_k hsh
      have g21 := zkc_p hsh
      replace hsh := zkc_k hsh
      refine z_ldiv (pc' := 78) dX9_runScript_77 g19 g20 g21 rfl ?_
      refine z_ldc2 (pc' := 81) (10000 : Int) dX9_runScript_78 mX9_runScript_k183 (by decide) rfl ?_
      have g22 := zkl_p hsh
      replace hsh := zkl_k hsh
      refine z_lrem (pc' := 82) dX9_runScript_81 g22 (by decide) (by decide) rfl ?_
      refine z_l2i (pc' := 83) dX9_runScript_82 rfl ?_
      obtain ⟨q23, h24, hsh⟩ := zbind hsh
      refine z_callV (pc' := 86) (C := RX9) (As := [.int (zi (zmod (zdiv p1 q17) (10000 : Int)))]) (rest := []) (wr := [(a_t_now, zI J 243 f_t_now)]) 1 (zc_X9_command l D J F (a_t := a_t) (a_t_now := a_t_now) (a_t_trial := a_t_trial) (a_t_diary := a_t_diary) (a_t_kept := a_t_kept) (a_t_isKept := a_t_isKept) (a_t_script := a_t_script) (a_t_read := a_t_read) (a_t_wanted := a_t_wanted) (a_t_level := a_t_level) (a_t_chosen := a_t_chosen) (a_t_best := a_t_best) (c_t_refusal := q5.2) (c_t_high := c_t_high) (c_t_wide := c_t_wide) (c_t_acts := c_t_acts) (c_t_next := c_t_next) (c_t_scriptSize := c_t_scriptSize) (c_t_spot := c_t_spot) (c_t_readHigh := c_t_readHigh) (c_t_readWide := c_t_readWide) (f_t_trial := v14) (p0 := (zmod (zdiv p1 q17) (10000 : Int)))  q23 h24) dX9_runScript_83 gX9_runScript_X9_command rfl rfl rfl (by decide +kernel) ⟨Nat.le_of_ble_eq_true rfl, Nat.le_of_ble_eq_true rfl⟩ ⟨Nat.le_of_ble_eq_true rfl, Nat.le_of_ble_eq_true rfl⟩ (z_spl_of [0, 2, 1] rfl rfl) rfl rfl rfl rfl (Nat.le_of_ble_eq_true rfl) rfl (fun rv w9 hq => ?_)
      obtain ⟨rfl, rfl⟩ := hq
      refine z_ws [(a_t_now, zI J 243 f_t_now), (a_t, .inr (8, [.int (zi q5.2), .int (zi c_t_high), .int (zi c_t_wide), .ref a_t_now, .ref a_t_trial, .ref a_t_diary, .int (zi c_t_acts), .int (zi c_t_next), .ref a_t_kept, .ref a_t_isKept, .ref a_t_script, .int (zi c_t_scriptSize), .int (zi c_t_spot), .ref a_t_read, .int (zi c_t_readHigh), .int (zi c_t_readWide), .ref a_t_wanted, .ref a_t_level, .ref a_t_chosen, .ref a_t_best])), (a_t_trial, zI J 243 q23.2)] rfl ?_
      have g25 := zkr_p hsh
      replace hsh := zkr_k hsh
      refine z_if_ne (pc' := 89) (tgt := 92) dX9_runScript_86 (by decide) g25 rfl (fun q => ?_) (fun q => ?_)
      · replace hsh := zif_f q hsh
        refine z_iinc (pc' := 95) [(4, .int (zi (v13 + (1 : Int)))), (0, .ref a_t), (1, .int (zi p0)), (2, .long (zl p1))] 3 dX9_runScript_92 rfl (by decide) rfl rfl ?_
        refine z_goto (tgt := 58) dX9_runScript_95 (by decide) ?_
        refine z_perm [(a_t, .inr (8, [.int (zi q5.2), .int (zi c_t_high), .int (zi c_t_wide), .ref a_t_now, .ref a_t_trial, .ref a_t_diary, .int (zi c_t_acts), .int (zi c_t_next), .ref a_t_kept, .ref a_t_isKept, .ref a_t_script, .int (zi c_t_scriptSize), .int (zi c_t_spot), .ref a_t_read, .int (zi c_t_readHigh), .int (zi c_t_readWide), .ref a_t_wanted, .ref a_t_level, .ref a_t_chosen, .ref a_t_best])), (a_t_now, zI J 243 f_t_now), (a_t_trial, zI J 243 q23.2)] [(0, .ref a_t), (1, .int (zi p0)), (2, .long (zl p1)), (4, .int (zi (v13 + (1 : Int))))] [1, 0, 2] [1, 2, 3, 0] rfl rfl rfl ?_
        exact ih _ _ hsh
      · replace hsh := zif_t q hsh
        refine z_iload (pc' := 91) 3 dX9_runScript_89 rfl rfl ?_
        refine z_perm [(a_t, .inr (8, [.int (zi q5.2), .int (zi c_t_high), .int (zi c_t_wide), .ref a_t_now, .ref a_t_trial, .ref a_t_diary, .int (zi c_t_acts), .int (zi c_t_next), .ref a_t_kept, .ref a_t_isKept, .ref a_t_script, .int (zi c_t_scriptSize), .int (zi c_t_spot), .ref a_t_read, .int (zi c_t_readHigh), .int (zi c_t_readWide), .ref a_t_wanted, .ref a_t_level, .ref a_t_chosen, .ref a_t_best])), (a_t_now, zI J 243 f_t_now), (a_t_trial, zI J 243 q23.2)] [(0, .ref a_t), (1, .int (zi p0)), (2, .long (zl p1)), (4, .int (zi v13))] [1, 0, 2] [0, 1, 2, 3] rfl rfl rfl ?_
        cases hsh
        exact z_iret rfl dX9_runScript_91 ⟨rfl, rfl⟩
set_option maxRecDepth 100000 in
set_option maxHeartbeats 4000000 in
theorem zl_X9_runScript_L58_2 {p : Program} {l : Launch} {e : Env} {s : State} {m : MethodId} {args : Array Value} {below : List Frame} {meth : Method} {c : Code} {A : Nat → Prop} {D : va_G} {J : Nat → ClassId} {F : Nat} {p0 : Int} {p1 : Int} {c_t_high : Int} {c_t_wide : Int} {q33 : Int × Int} {a_t : Nat} {a_t_now : Nat} {a_t_trial : Nat} {a_t_diary : Nat} {c_t_acts : Int} {c_t_next : Int} {a_t_kept : Nat} {a_t_isKept : Nat} {a_t_script : Nat} {c_t_scriptSize : Int} {c_t_spot : Int} {a_t_read : Nat} {c_t_readHigh : Int} {c_t_readWide : Int} {a_t_wanted : Nat} {a_t_level : Nat} {a_t_chosen : Nat} {a_t_best : Nat} {f_t_now : Nat → Int} {res : Int × Int × (Nat → Int)} {k : Int → (Nat → Int) → Option (Int × Int × (Nat → Int))} (hk : ∀ (v41' : Int) (v42' : (Nat → Int)), k v41' v42' = some res → Z p l e ({ frames := 6, cells := 0, slots := 0, locals := 151 } : Room) s m args below meth c (MQ below (zQ D J A (fun rv w9 => rv = some (.int (zi res.1)) ∧ w9 = [(a_t, .inr (8, [.int (zi res.2.1), .int (zi c_t_high), .int (zi c_t_wide), .ref a_t_now, .ref a_t_trial, .ref a_t_diary, .int (zi c_t_acts), .int (zi c_t_next), .ref a_t_kept, .ref a_t_isKept, .ref a_t_script, .int (zi c_t_scriptSize), .int (zi c_t_spot), .ref a_t_read, .int (zi c_t_readHigh), .int (zi c_t_readWide), .ref a_t_wanted, .ref a_t_level, .ref a_t_chosen, .ref a_t_best])), (a_t_now, zI J 243 f_t_now), (a_t_trial, zI J 243 res.2.2)])) args s 0 0 A) cX9_runScript 5 wsX9_runScript RX9 D J A (some .int) (yX9_runScript.name, []) 0 0 [(a_t, .inr (8, [.int (zi q33.2), .int (zi c_t_high), .int (zi c_t_wide), .ref a_t_now, .ref a_t_trial, .ref a_t_diary, .int (zi c_t_acts), .int (zi c_t_next), .ref a_t_kept, .ref a_t_isKept, .ref a_t_script, .int (zi c_t_scriptSize), .int (zi c_t_spot), .ref a_t_read, .int (zi c_t_readHigh), .int (zi c_t_readWide), .ref a_t_wanted, .ref a_t_level, .ref a_t_chosen, .ref a_t_best])), (a_t_now, zI J 243 f_t_now), (a_t_trial, zI J 243 v42')] [] 98 []) : ∀ (N : Nat) (v41 : Int) (v42 : (Nat → Int)), sh_X9_runScript_L58_2 F p0 p1 c_t_high c_t_wide q33 k N v41 v42 = some res → Z p l e ({ frames := 6, cells := 0, slots := 0, locals := 151 } : Room) s m args below meth c (MQ below (zQ D J A (fun rv w9 => rv = some (.int (zi res.1)) ∧ w9 = [(a_t, .inr (8, [.int (zi res.2.1), .int (zi c_t_high), .int (zi c_t_wide), .ref a_t_now, .ref a_t_trial, .ref a_t_diary, .int (zi c_t_acts), .int (zi c_t_next), .ref a_t_kept, .ref a_t_isKept, .ref a_t_script, .int (zi c_t_scriptSize), .int (zi c_t_spot), .ref a_t_read, .int (zi c_t_readHigh), .int (zi c_t_readWide), .ref a_t_wanted, .ref a_t_level, .ref a_t_chosen, .ref a_t_best])), (a_t_now, zI J 243 f_t_now), (a_t_trial, zI J 243 res.2.2)])) args s 0 0 A) cX9_runScript 5 wsX9_runScript RX9 D J A (some .int) (yX9_runScript.name, []) 0 0 [(a_t, .inr (8, [.int (zi q33.2), .int (zi c_t_high), .int (zi c_t_wide), .ref a_t_now, .ref a_t_trial, .ref a_t_diary, .int (zi c_t_acts), .int (zi c_t_next), .ref a_t_kept, .ref a_t_isKept, .ref a_t_script, .int (zi c_t_scriptSize), .int (zi c_t_spot), .ref a_t_read, .int (zi c_t_readHigh), .int (zi c_t_readWide), .ref a_t_wanted, .ref a_t_level, .ref a_t_chosen, .ref a_t_best])), (a_t_now, zI J 243 f_t_now), (a_t_trial, zI J 243 v42)] [(0, .ref a_t), (1, .int (zi p0)), (2, .long (zl p1)), (4, .int (zi v41))] 58 [] := by
  intro N
  induction N with
  | zero =>
    intro v41 v42 hsh
    exact absurd hsh (by simp [sh_X9_runScript_L58_2])
  | succ N ih =>
    intro v41 v42 hsh
    rw [sh_X9_runScript_L58_2] at hsh
    refine z_iload (pc' := 60) 3 dX9_runScript_58 rfl rfl ?_
    refine z_iload_n (pc' := 61) 1 dX9_runScript_60 rfl rfl rfl ?_
    have g43 := zkr_p hsh
    replace hsh := zkr_k hsh
    have g44 := zkr_p hsh
    replace hsh := zkr_k hsh
    refine z_icmp_ge (pc' := 64) (tgt := 98) dX9_runScript_61 (by decide) g43 g44 rfl (fun q => ?_) (fun q => ?_)
    · replace hsh := zif_f q hsh
      refine z_perm [(a_t, .inr (8, [.int (zi q33.2), .int (zi c_t_high), .int (zi c_t_wide), .ref a_t_now, .ref a_t_trial, .ref a_t_diary, .int (zi c_t_acts), .int (zi c_t_next), .ref a_t_kept, .ref a_t_isKept, .ref a_t_script, .int (zi c_t_scriptSize), .int (zi c_t_spot), .ref a_t_read, .int (zi c_t_readHigh), .int (zi c_t_readWide), .ref a_t_wanted, .ref a_t_level, .ref a_t_chosen, .ref a_t_best])), (a_t_now, zI J 243 f_t_now), (a_t_trial, zI J 243 v42)] [] [0, 1, 2] [] rfl rfl rfl ?_
      exact hk _ _ hsh
    · replace hsh := zif_t q hsh
      refine z_aload_n (pc' := 65) 0 dX9_runScript_64 rfl rfl rfl ?_
      refine z_lload_n (pc' := 66) 2 dX9_runScript_65 rfl rfl rfl ?_
      refine z_iconst (pc' := 67) dX9_runScript_66 rfl ?_
      refine z_iload_n (pc' := 68) 1 dX9_runScript_67 rfl rfl rfl ?_
      refine z_iconst (pc' := 69) dX9_runScript_68 rfl ?_
      refine z_isub (pc' := 70) dX9_runScript_69 rfl ?_
      refine z_iload (pc' := 72) 3 dX9_runScript_70 rfl rfl ?_
      refine z_isub (pc' := 73) dX9_runScript_72 rfl ?_
      refine z_imul (pc' := 74) dX9_runScript_73 rfl ?_
      obtain ⟨q45, h46, hsh⟩ := zbind hsh
      refine z_callS (pc' := 77) (As := [.int (zi ((4 : Int) * ((p0 - (1 : Int)) - v41)))]) (rest := [.long (zl p1), .ref a_t]) (wr := [(a_t, .inr (8, [.int (zi q33.2), .int (zi c_t_high), .int (zi c_t_wide), .ref a_t_now, .ref a_t_trial, .ref a_t_diary, .int (zi c_t_acts), .int (zi c_t_next), .ref a_t_kept, .ref a_t_isKept, .ref a_t_script, .int (zi c_t_scriptSize), .int (zi c_t_spot), .ref a_t_read, .int (zi c_t_readHigh), .int (zi c_t_readWide), .ref a_t_wanted, .ref a_t_level, .ref a_t_chosen, .ref a_t_best])), (a_t_now, zI J 243 f_t_now), (a_t_trial, zI J 243 v42)]) 1 (zc_X9_tens l D J F (p0 := ((4 : Int) * ((p0 - (1 : Int)) - v41)))  q45 h46) dX9_runScript_74 gX9_runScript_X9_tens rfl rfl rfl (by decide +kernel) ⟨Nat.le_of_ble_eq_true rfl, Nat.le_of_ble_eq_true rfl⟩ ⟨Nat.le_of_ble_eq_true rfl, Nat.le_of_ble_eq_true rfl⟩ (z_spl_of [0, 1, 2] rfl rfl) rfl rfl (Nat.le_of_ble_eq_true rfl) rfl (fun rv w9 hq => ?_)
      obtain ⟨rfl, rfl⟩ := hq
      refine z_ws [(a_t, .inr (8, [.int (zi q33.2), .int (zi c_t_high), .int (zi c_t_wide), .ref a_t_now, .ref a_t_trial, .ref a_t_diary, .int (zi c_t_acts), .int (zi c_t_next), .ref a_t_kept, .ref a_t_isKept, .ref a_t_script, .int (zi c_t_scriptSize), .int (zi c_t_spot), .ref a_t_read, .int (zi c_t_readHigh), .int (zi c_t_readWide), .ref a_t_wanted, .ref a_t_level, .ref a_t_chosen, .ref a_t_best])), (a_t_now, zI J 243 f_t_now), (a_t_trial, zI J 243 v42)] rfl ?_
      have g47 := zkl_p hsh
      replace hsh := zkl_k hsh
      have g48 := zkl_p hsh
      replace hsh := zkl_k hsh
      have g49 := zkc_p hsh
      replace hsh := zkc_k hsh
      refine z_ldiv (pc' := 78) dX9_runScript_77 g47 g48 g49 rfl ?_
      refine z_ldc2 (pc' := 81) (10000 : Int) dX9_runScript_78 mX9_runScript_k183 (by decide) rfl ?_
      have g50 := zkl_p hsh
      replace hsh := zkl_k hsh
      refine z_lrem (pc' := 82) dX9_runScript_81 g50 (by decide) (by decide) rfl ?_
      refine z_l2i (pc' := 83) dX9_runScript_82 rfl ?_
      obtain ⟨q51, h52, hsh⟩ := zbind hsh
      refine z_callV (pc' := 86) (C := RX9) (As := [.int (zi (zmod (zdiv p1 q45) (10000 : Int)))]) (rest := []) (wr := [(a_t_now, zI J 243 f_t_now)]) 1 (zc_X9_command l D J F (a_t := a_t) (a_t_now := a_t_now) (a_t_trial := a_t_trial) (a_t_diary := a_t_diary) (a_t_kept := a_t_kept) (a_t_isKept := a_t_isKept) (a_t_script := a_t_script) (a_t_read := a_t_read) (a_t_wanted := a_t_wanted) (a_t_level := a_t_level) (a_t_chosen := a_t_chosen) (a_t_best := a_t_best) (c_t_refusal := q33.2) (c_t_high := c_t_high) (c_t_wide := c_t_wide) (c_t_acts := c_t_acts) (c_t_next := c_t_next) (c_t_scriptSize := c_t_scriptSize) (c_t_spot := c_t_spot) (c_t_readHigh := c_t_readHigh) (c_t_readWide := c_t_readWide) (f_t_trial := v42) (p0 := (zmod (zdiv p1 q45) (10000 : Int)))  q51 h52) dX9_runScript_83 gX9_runScript_X9_command rfl rfl rfl (by decide +kernel) ⟨Nat.le_of_ble_eq_true rfl, Nat.le_of_ble_eq_true rfl⟩ ⟨Nat.le_of_ble_eq_true rfl, Nat.le_of_ble_eq_true rfl⟩ (z_spl_of [0, 2, 1] rfl rfl) rfl rfl rfl rfl (Nat.le_of_ble_eq_true rfl) rfl (fun rv w9 hq => ?_)
      obtain ⟨rfl, rfl⟩ := hq
      refine z_ws [(a_t_now, zI J 243 f_t_now), (a_t, .inr (8, [.int (zi q33.2), .int (zi c_t_high), .int (zi c_t_wide), .ref a_t_now, .ref a_t_trial, .ref a_t_diary, .int (zi c_t_acts), .int (zi c_t_next), .ref a_t_kept, .ref a_t_isKept, .ref a_t_script, .int (zi c_t_scriptSize), .int (zi c_t_spot), .ref a_t_read, .int (zi c_t_readHigh), .int (zi c_t_readWide), .ref a_t_wanted, .ref a_t_level, .ref a_t_chosen, .ref a_t_best])), (a_t_trial, zI J 243 q51.2)] rfl ?_
      have g53 := zkr_p hsh
      replace hsh := zkr_k hsh
      refine z_if_ne (pc' := 89) (tgt := 92) dX9_runScript_86 (by decide) g53 rfl (fun q => ?_) (fun q => ?_)
      · replace hsh := zif_f q hsh
        refine z_iinc (pc' := 95) [(4, .int (zi (v41 + (1 : Int)))), (0, .ref a_t), (1, .int (zi p0)), (2, .long (zl p1))] 3 dX9_runScript_92 rfl (by decide) rfl rfl ?_
        refine z_goto (tgt := 58) dX9_runScript_95 (by decide) ?_
        refine z_perm [(a_t, .inr (8, [.int (zi q33.2), .int (zi c_t_high), .int (zi c_t_wide), .ref a_t_now, .ref a_t_trial, .ref a_t_diary, .int (zi c_t_acts), .int (zi c_t_next), .ref a_t_kept, .ref a_t_isKept, .ref a_t_script, .int (zi c_t_scriptSize), .int (zi c_t_spot), .ref a_t_read, .int (zi c_t_readHigh), .int (zi c_t_readWide), .ref a_t_wanted, .ref a_t_level, .ref a_t_chosen, .ref a_t_best])), (a_t_now, zI J 243 f_t_now), (a_t_trial, zI J 243 q51.2)] [(0, .ref a_t), (1, .int (zi p0)), (2, .long (zl p1)), (4, .int (zi (v41 + (1 : Int))))] [1, 0, 2] [1, 2, 3, 0] rfl rfl rfl ?_
        exact ih _ _ hsh
      · replace hsh := zif_t q hsh
        refine z_iload (pc' := 91) 3 dX9_runScript_89 rfl rfl ?_
        refine z_perm [(a_t, .inr (8, [.int (zi q33.2), .int (zi c_t_high), .int (zi c_t_wide), .ref a_t_now, .ref a_t_trial, .ref a_t_diary, .int (zi c_t_acts), .int (zi c_t_next), .ref a_t_kept, .ref a_t_isKept, .ref a_t_script, .int (zi c_t_scriptSize), .int (zi c_t_spot), .ref a_t_read, .int (zi c_t_readHigh), .int (zi c_t_readWide), .ref a_t_wanted, .ref a_t_level, .ref a_t_chosen, .ref a_t_best])), (a_t_now, zI J 243 f_t_now), (a_t_trial, zI J 243 q51.2)] [(0, .ref a_t), (1, .int (zi p0)), (2, .long (zl p1)), (4, .int (zi v41))] [1, 0, 2] [0, 1, 2, 3] rfl rfl rfl ?_
        cases hsh
        exact z_iret rfl dX9_runScript_91 ⟨rfl, rfl⟩
set_option maxRecDepth 100000 in
set_option maxHeartbeats 4000000 in
theorem zl_X9_runScript_L58_3 {p : Program} {l : Launch} {e : Env} {s : State} {m : MethodId} {args : Array Value} {below : List Frame} {meth : Method} {c : Code} {A : Nat → Prop} {D : va_G} {J : Nat → ClassId} {F : Nat} {p0 : Int} {p1 : Int} {c_t_high : Int} {c_t_wide : Int} {q56 : Int × Int} {a_t : Nat} {a_t_now : Nat} {a_t_trial : Nat} {a_t_diary : Nat} {c_t_acts : Int} {c_t_next : Int} {a_t_kept : Nat} {a_t_isKept : Nat} {a_t_script : Nat} {c_t_scriptSize : Int} {c_t_spot : Int} {a_t_read : Nat} {c_t_readHigh : Int} {c_t_readWide : Int} {a_t_wanted : Nat} {a_t_level : Nat} {a_t_chosen : Nat} {a_t_best : Nat} {f_t_now : Nat → Int} {res : Int × Int × (Nat → Int)} {k : Int → (Nat → Int) → Option (Int × Int × (Nat → Int))} (hk : ∀ (v64' : Int) (v65' : (Nat → Int)), k v64' v65' = some res → Z p l e ({ frames := 6, cells := 0, slots := 0, locals := 151 } : Room) s m args below meth c (MQ below (zQ D J A (fun rv w9 => rv = some (.int (zi res.1)) ∧ w9 = [(a_t, .inr (8, [.int (zi res.2.1), .int (zi c_t_high), .int (zi c_t_wide), .ref a_t_now, .ref a_t_trial, .ref a_t_diary, .int (zi c_t_acts), .int (zi c_t_next), .ref a_t_kept, .ref a_t_isKept, .ref a_t_script, .int (zi c_t_scriptSize), .int (zi c_t_spot), .ref a_t_read, .int (zi c_t_readHigh), .int (zi c_t_readWide), .ref a_t_wanted, .ref a_t_level, .ref a_t_chosen, .ref a_t_best])), (a_t_now, zI J 243 f_t_now), (a_t_trial, zI J 243 res.2.2)])) args s 0 0 A) cX9_runScript 5 wsX9_runScript RX9 D J A (some .int) (yX9_runScript.name, []) 0 0 [(a_t, .inr (8, [.int (zi q56.2), .int (zi c_t_high), .int (zi c_t_wide), .ref a_t_now, .ref a_t_trial, .ref a_t_diary, .int (zi c_t_acts), .int (zi c_t_next), .ref a_t_kept, .ref a_t_isKept, .ref a_t_script, .int (zi c_t_scriptSize), .int (zi c_t_spot), .ref a_t_read, .int (zi c_t_readHigh), .int (zi c_t_readWide), .ref a_t_wanted, .ref a_t_level, .ref a_t_chosen, .ref a_t_best])), (a_t_now, zI J 243 f_t_now), (a_t_trial, zI J 243 v65')] [] 98 []) : ∀ (N : Nat) (v64 : Int) (v65 : (Nat → Int)), sh_X9_runScript_L58_3 F p0 p1 c_t_high c_t_wide q56 k N v64 v65 = some res → Z p l e ({ frames := 6, cells := 0, slots := 0, locals := 151 } : Room) s m args below meth c (MQ below (zQ D J A (fun rv w9 => rv = some (.int (zi res.1)) ∧ w9 = [(a_t, .inr (8, [.int (zi res.2.1), .int (zi c_t_high), .int (zi c_t_wide), .ref a_t_now, .ref a_t_trial, .ref a_t_diary, .int (zi c_t_acts), .int (zi c_t_next), .ref a_t_kept, .ref a_t_isKept, .ref a_t_script, .int (zi c_t_scriptSize), .int (zi c_t_spot), .ref a_t_read, .int (zi c_t_readHigh), .int (zi c_t_readWide), .ref a_t_wanted, .ref a_t_level, .ref a_t_chosen, .ref a_t_best])), (a_t_now, zI J 243 f_t_now), (a_t_trial, zI J 243 res.2.2)])) args s 0 0 A) cX9_runScript 5 wsX9_runScript RX9 D J A (some .int) (yX9_runScript.name, []) 0 0 [(a_t, .inr (8, [.int (zi q56.2), .int (zi c_t_high), .int (zi c_t_wide), .ref a_t_now, .ref a_t_trial, .ref a_t_diary, .int (zi c_t_acts), .int (zi c_t_next), .ref a_t_kept, .ref a_t_isKept, .ref a_t_script, .int (zi c_t_scriptSize), .int (zi c_t_spot), .ref a_t_read, .int (zi c_t_readHigh), .int (zi c_t_readWide), .ref a_t_wanted, .ref a_t_level, .ref a_t_chosen, .ref a_t_best])), (a_t_now, zI J 243 f_t_now), (a_t_trial, zI J 243 v65)] [(0, .ref a_t), (1, .int (zi p0)), (2, .long (zl p1)), (4, .int (zi v64))] 58 [] := by
  intro N
  induction N with
  | zero =>
    intro v64 v65 hsh
    exact absurd hsh (by simp [sh_X9_runScript_L58_3])
  | succ N ih =>
    intro v64 v65 hsh
    rw [sh_X9_runScript_L58_3] at hsh
    refine z_iload (pc' := 60) 3 dX9_runScript_58 rfl rfl ?_
    refine z_iload_n (pc' := 61) 1 dX9_runScript_60 rfl rfl rfl ?_
    have g66 := zkr_p hsh
    replace hsh := zkr_k hsh
    have g67 := zkr_p hsh
    replace hsh := zkr_k hsh
    refine z_icmp_ge (pc' := 64) (tgt := 98) dX9_runScript_61 (by decide) g66 g67 rfl (fun q => ?_) (fun q => ?_)
    · replace hsh := zif_f q hsh
      refine z_perm [(a_t, .inr (8, [.int (zi q56.2), .int (zi c_t_high), .int (zi c_t_wide), .ref a_t_now, .ref a_t_trial, .ref a_t_diary, .int (zi c_t_acts), .int (zi c_t_next), .ref a_t_kept, .ref a_t_isKept, .ref a_t_script, .int (zi c_t_scriptSize), .int (zi c_t_spot), .ref a_t_read, .int (zi c_t_readHigh), .int (zi c_t_readWide), .ref a_t_wanted, .ref a_t_level, .ref a_t_chosen, .ref a_t_best])), (a_t_now, zI J 243 f_t_now), (a_t_trial, zI J 243 v65)] [] [0, 1, 2] [] rfl rfl rfl ?_
      exact hk _ _ hsh
    · replace hsh := zif_t q hsh
      refine z_aload_n (pc' := 65) 0 dX9_runScript_64 rfl rfl rfl ?_
      refine z_lload_n (pc' := 66) 2 dX9_runScript_65 rfl rfl rfl ?_
      refine z_iconst (pc' := 67) dX9_runScript_66 rfl ?_
      refine z_iload_n (pc' := 68) 1 dX9_runScript_67 rfl rfl rfl ?_
      refine z_iconst (pc' := 69) dX9_runScript_68 rfl ?_
      refine z_isub (pc' := 70) dX9_runScript_69 rfl ?_
      refine z_iload (pc' := 72) 3 dX9_runScript_70 rfl rfl ?_
      refine z_isub (pc' := 73) dX9_runScript_72 rfl ?_
      refine z_imul (pc' := 74) dX9_runScript_73 rfl ?_
      obtain ⟨q68, h69, hsh⟩ := zbind hsh
      refine z_callS (pc' := 77) (As := [.int (zi ((4 : Int) * ((p0 - (1 : Int)) - v64)))]) (rest := [.long (zl p1), .ref a_t]) (wr := [(a_t, .inr (8, [.int (zi q56.2), .int (zi c_t_high), .int (zi c_t_wide), .ref a_t_now, .ref a_t_trial, .ref a_t_diary, .int (zi c_t_acts), .int (zi c_t_next), .ref a_t_kept, .ref a_t_isKept, .ref a_t_script, .int (zi c_t_scriptSize), .int (zi c_t_spot), .ref a_t_read, .int (zi c_t_readHigh), .int (zi c_t_readWide), .ref a_t_wanted, .ref a_t_level, .ref a_t_chosen, .ref a_t_best])), (a_t_now, zI J 243 f_t_now), (a_t_trial, zI J 243 v65)]) 1 (zc_X9_tens l D J F (p0 := ((4 : Int) * ((p0 - (1 : Int)) - v64)))  q68 h69) dX9_runScript_74 gX9_runScript_X9_tens rfl rfl rfl (by decide +kernel) ⟨Nat.le_of_ble_eq_true rfl, Nat.le_of_ble_eq_true rfl⟩ ⟨Nat.le_of_ble_eq_true rfl, Nat.le_of_ble_eq_true rfl⟩ (z_spl_of [0, 1, 2] rfl rfl) rfl rfl (Nat.le_of_ble_eq_true rfl) rfl (fun rv w9 hq => ?_)
      obtain ⟨rfl, rfl⟩ := hq
      refine z_ws [(a_t, .inr (8, [.int (zi q56.2), .int (zi c_t_high), .int (zi c_t_wide), .ref a_t_now, .ref a_t_trial, .ref a_t_diary, .int (zi c_t_acts), .int (zi c_t_next), .ref a_t_kept, .ref a_t_isKept, .ref a_t_script, .int (zi c_t_scriptSize), .int (zi c_t_spot), .ref a_t_read, .int (zi c_t_readHigh), .int (zi c_t_readWide), .ref a_t_wanted, .ref a_t_level, .ref a_t_chosen, .ref a_t_best])), (a_t_now, zI J 243 f_t_now), (a_t_trial, zI J 243 v65)] rfl ?_
      have g70 := zkl_p hsh
      replace hsh := zkl_k hsh
      have g71 := zkl_p hsh
      replace hsh := zkl_k hsh
      have g72 := zkc_p hsh
      replace hsh := zkc_k hsh
      refine z_ldiv (pc' := 78) dX9_runScript_77 g70 g71 g72 rfl ?_
      refine z_ldc2 (pc' := 81) (10000 : Int) dX9_runScript_78 mX9_runScript_k183 (by decide) rfl ?_
      have g73 := zkl_p hsh
      replace hsh := zkl_k hsh
      refine z_lrem (pc' := 82) dX9_runScript_81 g73 (by decide) (by decide) rfl ?_
      refine z_l2i (pc' := 83) dX9_runScript_82 rfl ?_
      obtain ⟨q74, h75, hsh⟩ := zbind hsh
      refine z_callV (pc' := 86) (C := RX9) (As := [.int (zi (zmod (zdiv p1 q68) (10000 : Int)))]) (rest := []) (wr := [(a_t_now, zI J 243 f_t_now)]) 1 (zc_X9_command l D J F (a_t := a_t) (a_t_now := a_t_now) (a_t_trial := a_t_trial) (a_t_diary := a_t_diary) (a_t_kept := a_t_kept) (a_t_isKept := a_t_isKept) (a_t_script := a_t_script) (a_t_read := a_t_read) (a_t_wanted := a_t_wanted) (a_t_level := a_t_level) (a_t_chosen := a_t_chosen) (a_t_best := a_t_best) (c_t_refusal := q56.2) (c_t_high := c_t_high) (c_t_wide := c_t_wide) (c_t_acts := c_t_acts) (c_t_next := c_t_next) (c_t_scriptSize := c_t_scriptSize) (c_t_spot := c_t_spot) (c_t_readHigh := c_t_readHigh) (c_t_readWide := c_t_readWide) (f_t_trial := v65) (p0 := (zmod (zdiv p1 q68) (10000 : Int)))  q74 h75) dX9_runScript_83 gX9_runScript_X9_command rfl rfl rfl (by decide +kernel) ⟨Nat.le_of_ble_eq_true rfl, Nat.le_of_ble_eq_true rfl⟩ ⟨Nat.le_of_ble_eq_true rfl, Nat.le_of_ble_eq_true rfl⟩ (z_spl_of [0, 2, 1] rfl rfl) rfl rfl rfl rfl (Nat.le_of_ble_eq_true rfl) rfl (fun rv w9 hq => ?_)
      obtain ⟨rfl, rfl⟩ := hq
      refine z_ws [(a_t_now, zI J 243 f_t_now), (a_t, .inr (8, [.int (zi q56.2), .int (zi c_t_high), .int (zi c_t_wide), .ref a_t_now, .ref a_t_trial, .ref a_t_diary, .int (zi c_t_acts), .int (zi c_t_next), .ref a_t_kept, .ref a_t_isKept, .ref a_t_script, .int (zi c_t_scriptSize), .int (zi c_t_spot), .ref a_t_read, .int (zi c_t_readHigh), .int (zi c_t_readWide), .ref a_t_wanted, .ref a_t_level, .ref a_t_chosen, .ref a_t_best])), (a_t_trial, zI J 243 q74.2)] rfl ?_
      have g76 := zkr_p hsh
      replace hsh := zkr_k hsh
      refine z_if_ne (pc' := 89) (tgt := 92) dX9_runScript_86 (by decide) g76 rfl (fun q => ?_) (fun q => ?_)
      · replace hsh := zif_f q hsh
        refine z_iinc (pc' := 95) [(4, .int (zi (v64 + (1 : Int)))), (0, .ref a_t), (1, .int (zi p0)), (2, .long (zl p1))] 3 dX9_runScript_92 rfl (by decide) rfl rfl ?_
        refine z_goto (tgt := 58) dX9_runScript_95 (by decide) ?_
        refine z_perm [(a_t, .inr (8, [.int (zi q56.2), .int (zi c_t_high), .int (zi c_t_wide), .ref a_t_now, .ref a_t_trial, .ref a_t_diary, .int (zi c_t_acts), .int (zi c_t_next), .ref a_t_kept, .ref a_t_isKept, .ref a_t_script, .int (zi c_t_scriptSize), .int (zi c_t_spot), .ref a_t_read, .int (zi c_t_readHigh), .int (zi c_t_readWide), .ref a_t_wanted, .ref a_t_level, .ref a_t_chosen, .ref a_t_best])), (a_t_now, zI J 243 f_t_now), (a_t_trial, zI J 243 q74.2)] [(0, .ref a_t), (1, .int (zi p0)), (2, .long (zl p1)), (4, .int (zi (v64 + (1 : Int))))] [1, 0, 2] [1, 2, 3, 0] rfl rfl rfl ?_
        exact ih _ _ hsh
      · replace hsh := zif_t q hsh
        refine z_iload (pc' := 91) 3 dX9_runScript_89 rfl rfl ?_
        refine z_perm [(a_t, .inr (8, [.int (zi q56.2), .int (zi c_t_high), .int (zi c_t_wide), .ref a_t_now, .ref a_t_trial, .ref a_t_diary, .int (zi c_t_acts), .int (zi c_t_next), .ref a_t_kept, .ref a_t_isKept, .ref a_t_script, .int (zi c_t_scriptSize), .int (zi c_t_spot), .ref a_t_read, .int (zi c_t_readHigh), .int (zi c_t_readWide), .ref a_t_wanted, .ref a_t_level, .ref a_t_chosen, .ref a_t_best])), (a_t_now, zI J 243 f_t_now), (a_t_trial, zI J 243 q74.2)] [(0, .ref a_t), (1, .int (zi p0)), (2, .long (zl p1)), (4, .int (zi v64))] [1, 0, 2] [0, 1, 2, 3] rfl rfl rfl ?_
        cases hsh
        exact z_iret rfl dX9_runScript_91 ⟨rfl, rfl⟩
set_option maxRecDepth 100000 in
set_option maxHeartbeats 4000000 in
theorem zc_X9_runScript (l : Launch) (D : va_G) (J : Nat → ClassId) (F : Nat) (a_t : Nat) (a_t_now : Nat) (a_t_trial : Nat) (a_t_diary : Nat) (a_t_kept : Nat) (a_t_isKept : Nat) (a_t_script : Nat) (a_t_read : Nat) (a_t_wanted : Nat) (a_t_level : Nat) (a_t_chosen : Nat) (a_t_best : Nat) (c_t_refusal : Int) (c_t_high : Int) (c_t_wide : Int) (c_t_acts : Int) (c_t_next : Int) (c_t_scriptSize : Int) (c_t_spot : Int) (c_t_readHigh : Int) (c_t_readWide : Int) (f_t_now : Nat → Int) (f_t_trial : Nat → Int) (p0 : Int) (p1 : Int) (res : Int × Int × (Nat → Int)) (hsh : sh_X9_runScript F c_t_high c_t_wide f_t_now f_t_trial p0 p1 = some res) : ZM l D J yX9_runScript wsX9_runScript ({ frames := 6, cells := 0, slots := 0, locals := 151 } : Room) 0 0 [.ref a_t, .int (zi p0), .long (zl p1)] [(a_t, .inr (8, [.int (zi c_t_refusal), .int (zi c_t_high), .int (zi c_t_wide), .ref a_t_now, .ref a_t_trial, .ref a_t_diary, .int (zi c_t_acts), .int (zi c_t_next), .ref a_t_kept, .ref a_t_isKept, .ref a_t_script, .int (zi c_t_scriptSize), .int (zi c_t_spot), .ref a_t_read, .int (zi c_t_readHigh), .int (zi c_t_readWide), .ref a_t_wanted, .ref a_t_level, .ref a_t_chosen, .ref a_t_best])), (a_t_now, zI J 243 f_t_now), (a_t_trial, zI J 243 f_t_trial)] (fun rv w9 => rv = some (.int (zi res.1)) ∧ w9 = [(a_t, .inr (8, [.int (zi res.2.1), .int (zi c_t_high), .int (zi c_t_wide), .ref a_t_now, .ref a_t_trial, .ref a_t_diary, .int (zi c_t_acts), .int (zi c_t_next), .ref a_t_kept, .ref a_t_isKept, .ref a_t_script, .int (zi c_t_scriptSize), .int (zi c_t_spot), .ref a_t_read, .int (zi c_t_readHigh), .int (zi c_t_readWide), .ref a_t_wanted, .ref a_t_level, .ref a_t_chosen, .ref a_t_best])), (a_t_now, zI J 243 f_t_now), (a_t_trial, zI J 243 res.2.2)]) := by
  refine z_ofZ (cc := cX9_runScript) (maxL := 5) (ret := (some .int)) 0 0 (by decide) rfl (Nat.le_of_ble_eq_true rfl) [(0, .ref a_t), (1, .int (zi p0)), (2, .long (zl p1))] rfl ?_
  intro p e s m args below meth c A
  unfold sh_X9_runScript at hsh
  refine z_aload_n (pc' := 1) 0 dX9_runScript_0 rfl rfl rfl ?_
  refine z_iload_n (pc' := 2) 1 dX9_runScript_1 rfl rfl rfl ?_
  have g1 := zkr_p hsh
  replace hsh := zkr_k hsh
  refine z_i2l (pc' := 3) dX9_runScript_2 g1 rfl ?_
  refine z_lconst (pc' := 4) 1 dX9_runScript_3 (by decide) rfl ?_
  refine z_ldc2 (pc' := 7) (4 : Int) dX9_runScript_4 mX9_runScript_k165 (by decide) rfl ?_
  obtain ⟨q2, h3, hsh⟩ := zbind hsh
  refine z_callS (pc' := 10) (As := [.long (zl p0), .long (zl (1 : Int)), .long (zl (4 : Int))]) (rest := [.ref a_t]) (wr := [(a_t, .inr (8, [.int (zi c_t_refusal), .int (zi c_t_high), .int (zi c_t_wide), .ref a_t_now, .ref a_t_trial, .ref a_t_diary, .int (zi c_t_acts), .int (zi c_t_next), .ref a_t_kept, .ref a_t_isKept, .ref a_t_script, .int (zi c_t_scriptSize), .int (zi c_t_spot), .ref a_t_read, .int (zi c_t_readHigh), .int (zi c_t_readWide), .ref a_t_wanted, .ref a_t_level, .ref a_t_chosen, .ref a_t_best])), (a_t_now, zI J 243 f_t_now), (a_t_trial, zI J 243 f_t_trial)]) 3 (zc_X9_in l D J F (p0 := p0) (p1 := (1 : Int)) (p2 := (4 : Int))  q2 h3) dX9_runScript_7 gX9_runScript_X9_in rfl rfl rfl (by decide +kernel) ⟨Nat.le_of_ble_eq_true rfl, Nat.le_of_ble_eq_true rfl⟩ ⟨Nat.le_of_ble_eq_true rfl, Nat.le_of_ble_eq_true rfl⟩ (z_spl_of [0, 1, 2] rfl rfl) rfl rfl (Nat.le_of_ble_eq_true rfl) rfl (fun rv w9 hq => ?_)
  obtain ⟨rfl, rfl⟩ := hq
  refine z_ws [(a_t, .inr (8, [.int (zi c_t_refusal), .int (zi c_t_high), .int (zi c_t_wide), .ref a_t_now, .ref a_t_trial, .ref a_t_diary, .int (zi c_t_acts), .int (zi c_t_next), .ref a_t_kept, .ref a_t_isKept, .ref a_t_script, .int (zi c_t_scriptSize), .int (zi c_t_spot), .ref a_t_read, .int (zi c_t_readHigh), .int (zi c_t_readWide), .ref a_t_wanted, .ref a_t_level, .ref a_t_chosen, .ref a_t_best])), (a_t_now, zI J 243 f_t_now), (a_t_trial, zI J 243 f_t_trial)] rfl ?_
  have g4 := zkr_p hsh
  replace hsh := zkr_k hsh
  refine z_if_eq (pc' := 13) (tgt := 33) dX9_runScript_10 (by decide) g4 rfl (fun q => ?_) (fun q => ?_)
  · replace hsh := zif_t q hsh
    refine z_iconst (pc' := 34) dX9_runScript_33 rfl ?_
    obtain ⟨q5, h6, hsh⟩ := zbind hsh
    refine z_callV (pc' := 37) (C := RX9) (As := [.int (zi (1 : Int))]) (rest := []) (wr := [(a_t_now, zI J 243 f_t_now), (a_t_trial, zI J 243 f_t_trial)]) 1 (zc_X9_refused l D J F (a_t := a_t) (a_t_now := a_t_now) (a_t_trial := a_t_trial) (a_t_diary := a_t_diary) (a_t_kept := a_t_kept) (a_t_isKept := a_t_isKept) (a_t_script := a_t_script) (a_t_read := a_t_read) (a_t_wanted := a_t_wanted) (a_t_level := a_t_level) (a_t_chosen := a_t_chosen) (a_t_best := a_t_best) (c_t_refusal := c_t_refusal) (c_t_high := c_t_high) (c_t_wide := c_t_wide) (c_t_acts := c_t_acts) (c_t_next := c_t_next) (c_t_scriptSize := c_t_scriptSize) (c_t_spot := c_t_spot) (c_t_readHigh := c_t_readHigh) (c_t_readWide := c_t_readWide) (p0 := (1 : Int))  q5 h6) dX9_runScript_34 gX9_runScript_X9_refused rfl rfl rfl (by decide +kernel) ⟨Nat.le_of_ble_eq_true rfl, Nat.le_of_ble_eq_true rfl⟩ ⟨Nat.le_of_ble_eq_true rfl, Nat.le_of_ble_eq_true rfl⟩ (z_spl_of [0, 1, 2] rfl rfl) rfl rfl rfl rfl (Nat.le_of_ble_eq_true rfl) rfl (fun rv w9 hq => ?_)
    obtain ⟨rfl, rfl⟩ := hq
    refine z_ws [(a_t_now, zI J 243 f_t_now), (a_t_trial, zI J 243 f_t_trial), (a_t, .inr (8, [.int (zi q5.2), .int (zi c_t_high), .int (zi c_t_wide), .ref a_t_now, .ref a_t_trial, .ref a_t_diary, .int (zi c_t_acts), .int (zi c_t_next), .ref a_t_kept, .ref a_t_isKept, .ref a_t_script, .int (zi c_t_scriptSize), .int (zi c_t_spot), .ref a_t_read, .int (zi c_t_readHigh), .int (zi c_t_readWide), .ref a_t_wanted, .ref a_t_level, .ref a_t_chosen, .ref a_t_best]))] rfl ?_
    have g7 := zkr_p hsh
    replace hsh := zkr_k hsh
    refine z_if_eq (pc' := 40) (tgt := 42) dX9_runScript_37 (by decide) g7 rfl (fun q => ?_) (fun q => ?_)
    · replace hsh := zif_t q hsh
      refine z_aload_n (pc' := 43) 0 dX9_runScript_42 rfl rfl rfl ?_
      refine z_getfield (pc' := 46) (C := RX9) (T := TX9) (N := 20) 2 3 dX9_runScript_43 iX9_runScript_X9 rfl rfl (by decide) mX9_runScript_f16 rfl rfl ?_
      refine z_iconst (pc' := 47) dX9_runScript_46 rfl ?_
      refine z_aload_n (pc' := 48) 0 dX9_runScript_47 rfl rfl rfl ?_
      refine z_getfield (pc' := 51) (C := RX9) (T := TX9) (N := 20) 2 4 dX9_runScript_48 iX9_runScript_X9 rfl rfl (by decide) mX9_runScript_f20 rfl rfl ?_
      refine z_iconst (pc' := 52) dX9_runScript_51 rfl ?_
      obtain ⟨q8, h9, hsh⟩ := zbind hsh
      refine z_callS (pc' := 55) (As := [.ref a_t_now, .int (zi (0 : Int)), .ref a_t_trial, .int (zi (0 : Int))]) (rest := []) (wr := [(a_t, .inr (8, [.int (zi q5.2), .int (zi c_t_high), .int (zi c_t_wide), .ref a_t_now, .ref a_t_trial, .ref a_t_diary, .int (zi c_t_acts), .int (zi c_t_next), .ref a_t_kept, .ref a_t_isKept, .ref a_t_script, .int (zi c_t_scriptSize), .int (zi c_t_spot), .ref a_t_read, .int (zi c_t_readHigh), .int (zi c_t_readWide), .ref a_t_wanted, .ref a_t_level, .ref a_t_chosen, .ref a_t_best]))]) 4 (zc_X9_copy l D J F (a_p0 := a_t_now) (a_p2 := a_t_trial) (f_p0 := f_t_now) (f_p2 := f_t_trial) (n_p0 := 243) (n_p2 := 243) (p1 := (0 : Int)) (p3 := (0 : Int)) (hn_p0 := (by decide)) (hn_p2 := (by decide)) q8 h9) dX9_runScript_52 gX9_runScript_X9_copy rfl rfl rfl (by decide +kernel) ⟨Nat.le_of_ble_eq_true rfl, Nat.le_of_ble_eq_true rfl⟩ ⟨Nat.le_of_ble_eq_true rfl, Nat.le_of_ble_eq_true rfl⟩ (z_spl_of [0, 1, 2] rfl rfl) rfl rfl (Nat.le_of_ble_eq_true rfl) rfl (fun rv w9 hq => ?_)
      obtain ⟨rfl, rfl⟩ := hq
      refine z_ws [(a_t, .inr (8, [.int (zi q5.2), .int (zi c_t_high), .int (zi c_t_wide), .ref a_t_now, .ref a_t_trial, .ref a_t_diary, .int (zi c_t_acts), .int (zi c_t_next), .ref a_t_kept, .ref a_t_isKept, .ref a_t_script, .int (zi c_t_scriptSize), .int (zi c_t_spot), .ref a_t_read, .int (zi c_t_readHigh), .int (zi c_t_readWide), .ref a_t_wanted, .ref a_t_level, .ref a_t_chosen, .ref a_t_best])), (a_t_now, zI J 243 f_t_now), (a_t_trial, zI J 243 q8)] rfl ?_
      refine z_iconst (pc' := 56) dX9_runScript_55 rfl ?_
      refine z_istore (pc' := 58) [(4, .int (zi (0 : Int))), (0, .ref a_t), (1, .int (zi p0)), (2, .long (zl p1))] dX9_runScript_56 (by decide) rfl rfl ?_
      refine z_perm [(a_t, .inr (8, [.int (zi q5.2), .int (zi c_t_high), .int (zi c_t_wide), .ref a_t_now, .ref a_t_trial, .ref a_t_diary, .int (zi c_t_acts), .int (zi c_t_next), .ref a_t_kept, .ref a_t_isKept, .ref a_t_script, .int (zi c_t_scriptSize), .int (zi c_t_spot), .ref a_t_read, .int (zi c_t_readHigh), .int (zi c_t_readWide), .ref a_t_wanted, .ref a_t_level, .ref a_t_chosen, .ref a_t_best])), (a_t_now, zI J 243 f_t_now), (a_t_trial, zI J 243 q8)] [(0, .ref a_t), (1, .int (zi p0)), (2, .long (zl p1)), (4, .int (zi (0 : Int)))] [0, 1, 2] [1, 2, 3, 0] rfl rfl rfl ?_
      refine zl_X9_runScript_L58 (F := F) (hk := fun v26 v27 hsh => ?_) _ _ _ hsh
      refine z_bipush (pc' := 100) dX9_runScript_98 (by decide) rfl ?_
      cases hsh
      exact z_iret rfl dX9_runScript_100 ⟨rfl, rfl⟩
    · replace hsh := zif_f q hsh
      refine z_iconst (pc' := 41) dX9_runScript_40 rfl ?_
      refine z_perm [(a_t, .inr (8, [.int (zi q5.2), .int (zi c_t_high), .int (zi c_t_wide), .ref a_t_now, .ref a_t_trial, .ref a_t_diary, .int (zi c_t_acts), .int (zi c_t_next), .ref a_t_kept, .ref a_t_isKept, .ref a_t_script, .int (zi c_t_scriptSize), .int (zi c_t_spot), .ref a_t_read, .int (zi c_t_readHigh), .int (zi c_t_readWide), .ref a_t_wanted, .ref a_t_level, .ref a_t_chosen, .ref a_t_best])), (a_t_now, zI J 243 f_t_now), (a_t_trial, zI J 243 f_t_trial)] [(0, .ref a_t), (1, .int (zi p0)), (2, .long (zl p1))] [2, 0, 1] [0, 1, 2] rfl rfl rfl ?_
      cases hsh
      exact z_iret rfl dX9_runScript_41 ⟨rfl, rfl⟩
  · replace hsh := zif_f q hsh
    refine z_lload_n (pc' := 14) 2 dX9_runScript_13 rfl rfl rfl ?_
    refine z_lconst (pc' := 15) 0 dX9_runScript_14 (by decide) rfl ?_
    refine z_iconst (pc' := 16) dX9_runScript_15 rfl ?_
    refine z_iload_n (pc' := 17) 1 dX9_runScript_16 rfl rfl rfl ?_
    refine z_imul (pc' := 18) dX9_runScript_17 rfl ?_
    obtain ⟨q28, h29, hsh⟩ := zbind hsh
    refine z_callS (pc' := 21) (As := [.int (zi ((4 : Int) * p0))]) (rest := [.long (zl (0 : Int)), .long (zl p1), .ref a_t]) (wr := [(a_t, .inr (8, [.int (zi c_t_refusal), .int (zi c_t_high), .int (zi c_t_wide), .ref a_t_now, .ref a_t_trial, .ref a_t_diary, .int (zi c_t_acts), .int (zi c_t_next), .ref a_t_kept, .ref a_t_isKept, .ref a_t_script, .int (zi c_t_scriptSize), .int (zi c_t_spot), .ref a_t_read, .int (zi c_t_readHigh), .int (zi c_t_readWide), .ref a_t_wanted, .ref a_t_level, .ref a_t_chosen, .ref a_t_best])), (a_t_now, zI J 243 f_t_now), (a_t_trial, zI J 243 f_t_trial)]) 1 (zc_X9_tens l D J F (p0 := ((4 : Int) * p0))  q28 h29) dX9_runScript_18 gX9_runScript_X9_tens rfl rfl rfl (by decide +kernel) ⟨Nat.le_of_ble_eq_true rfl, Nat.le_of_ble_eq_true rfl⟩ ⟨Nat.le_of_ble_eq_true rfl, Nat.le_of_ble_eq_true rfl⟩ (z_spl_of [0, 1, 2] rfl rfl) rfl rfl (Nat.le_of_ble_eq_true rfl) rfl (fun rv w9 hq => ?_)
    obtain ⟨rfl, rfl⟩ := hq
    refine z_ws [(a_t, .inr (8, [.int (zi c_t_refusal), .int (zi c_t_high), .int (zi c_t_wide), .ref a_t_now, .ref a_t_trial, .ref a_t_diary, .int (zi c_t_acts), .int (zi c_t_next), .ref a_t_kept, .ref a_t_isKept, .ref a_t_script, .int (zi c_t_scriptSize), .int (zi c_t_spot), .ref a_t_read, .int (zi c_t_readHigh), .int (zi c_t_readWide), .ref a_t_wanted, .ref a_t_level, .ref a_t_chosen, .ref a_t_best])), (a_t_now, zI J 243 f_t_now), (a_t_trial, zI J 243 f_t_trial)] rfl ?_
    refine z_lconst (pc' := 22) 1 dX9_runScript_21 (by decide) rfl ?_
    refine z_lsub (pc' := 23) dX9_runScript_22 rfl ?_
    obtain ⟨q30, h31, hsh⟩ := zbind hsh
    refine z_callS (pc' := 26) (As := [.long (zl p1), .long (zl (0 : Int)), .long (zl (q28 - (1 : Int)))]) (rest := [.ref a_t]) (wr := [(a_t, .inr (8, [.int (zi c_t_refusal), .int (zi c_t_high), .int (zi c_t_wide), .ref a_t_now, .ref a_t_trial, .ref a_t_diary, .int (zi c_t_acts), .int (zi c_t_next), .ref a_t_kept, .ref a_t_isKept, .ref a_t_script, .int (zi c_t_scriptSize), .int (zi c_t_spot), .ref a_t_read, .int (zi c_t_readHigh), .int (zi c_t_readWide), .ref a_t_wanted, .ref a_t_level, .ref a_t_chosen, .ref a_t_best])), (a_t_now, zI J 243 f_t_now), (a_t_trial, zI J 243 f_t_trial)]) 3 (zc_X9_in l D J F (p0 := p1) (p1 := (0 : Int)) (p2 := (q28 - (1 : Int)))  q30 h31) dX9_runScript_23 gX9_runScript_X9_in rfl rfl rfl (by decide +kernel) ⟨Nat.le_of_ble_eq_true rfl, Nat.le_of_ble_eq_true rfl⟩ ⟨Nat.le_of_ble_eq_true rfl, Nat.le_of_ble_eq_true rfl⟩ (z_spl_of [0, 1, 2] rfl rfl) rfl rfl (Nat.le_of_ble_eq_true rfl) rfl (fun rv w9 hq => ?_)
    obtain ⟨rfl, rfl⟩ := hq
    refine z_ws [(a_t, .inr (8, [.int (zi c_t_refusal), .int (zi c_t_high), .int (zi c_t_wide), .ref a_t_now, .ref a_t_trial, .ref a_t_diary, .int (zi c_t_acts), .int (zi c_t_next), .ref a_t_kept, .ref a_t_isKept, .ref a_t_script, .int (zi c_t_scriptSize), .int (zi c_t_spot), .ref a_t_read, .int (zi c_t_readHigh), .int (zi c_t_readWide), .ref a_t_wanted, .ref a_t_level, .ref a_t_chosen, .ref a_t_best])), (a_t_now, zI J 243 f_t_now), (a_t_trial, zI J 243 f_t_trial)] rfl ?_
    have g32 := zkr_p hsh
    replace hsh := zkr_k hsh
    refine z_if_eq (pc' := 29) (tgt := 33) dX9_runScript_26 (by decide) g32 rfl (fun q => ?_) (fun q => ?_)
    · replace hsh := zif_t q hsh
      refine z_iconst (pc' := 34) dX9_runScript_33 rfl ?_
      obtain ⟨q33, h34, hsh⟩ := zbind hsh
      refine z_callV (pc' := 37) (C := RX9) (As := [.int (zi (1 : Int))]) (rest := []) (wr := [(a_t_now, zI J 243 f_t_now), (a_t_trial, zI J 243 f_t_trial)]) 1 (zc_X9_refused l D J F (a_t := a_t) (a_t_now := a_t_now) (a_t_trial := a_t_trial) (a_t_diary := a_t_diary) (a_t_kept := a_t_kept) (a_t_isKept := a_t_isKept) (a_t_script := a_t_script) (a_t_read := a_t_read) (a_t_wanted := a_t_wanted) (a_t_level := a_t_level) (a_t_chosen := a_t_chosen) (a_t_best := a_t_best) (c_t_refusal := c_t_refusal) (c_t_high := c_t_high) (c_t_wide := c_t_wide) (c_t_acts := c_t_acts) (c_t_next := c_t_next) (c_t_scriptSize := c_t_scriptSize) (c_t_spot := c_t_spot) (c_t_readHigh := c_t_readHigh) (c_t_readWide := c_t_readWide) (p0 := (1 : Int))  q33 h34) dX9_runScript_34 gX9_runScript_X9_refused rfl rfl rfl (by decide +kernel) ⟨Nat.le_of_ble_eq_true rfl, Nat.le_of_ble_eq_true rfl⟩ ⟨Nat.le_of_ble_eq_true rfl, Nat.le_of_ble_eq_true rfl⟩ (z_spl_of [0, 1, 2] rfl rfl) rfl rfl rfl rfl (Nat.le_of_ble_eq_true rfl) rfl (fun rv w9 hq => ?_)
      obtain ⟨rfl, rfl⟩ := hq
      refine z_ws [(a_t_now, zI J 243 f_t_now), (a_t_trial, zI J 243 f_t_trial), (a_t, .inr (8, [.int (zi q33.2), .int (zi c_t_high), .int (zi c_t_wide), .ref a_t_now, .ref a_t_trial, .ref a_t_diary, .int (zi c_t_acts), .int (zi c_t_next), .ref a_t_kept, .ref a_t_isKept, .ref a_t_script, .int (zi c_t_scriptSize), .int (zi c_t_spot), .ref a_t_read, .int (zi c_t_readHigh), .int (zi c_t_readWide), .ref a_t_wanted, .ref a_t_level, .ref a_t_chosen, .ref a_t_best]))] rfl ?_
      have g35 := zkr_p hsh
      replace hsh := zkr_k hsh
      refine z_if_eq (pc' := 40) (tgt := 42) dX9_runScript_37 (by decide) g35 rfl (fun q => ?_) (fun q => ?_)
      · replace hsh := zif_t q hsh
        refine z_aload_n (pc' := 43) 0 dX9_runScript_42 rfl rfl rfl ?_
        refine z_getfield (pc' := 46) (C := RX9) (T := TX9) (N := 20) 2 3 dX9_runScript_43 iX9_runScript_X9 rfl rfl (by decide) mX9_runScript_f16 rfl rfl ?_
        refine z_iconst (pc' := 47) dX9_runScript_46 rfl ?_
        refine z_aload_n (pc' := 48) 0 dX9_runScript_47 rfl rfl rfl ?_
        refine z_getfield (pc' := 51) (C := RX9) (T := TX9) (N := 20) 2 4 dX9_runScript_48 iX9_runScript_X9 rfl rfl (by decide) mX9_runScript_f20 rfl rfl ?_
        refine z_iconst (pc' := 52) dX9_runScript_51 rfl ?_
        obtain ⟨q36, h37, hsh⟩ := zbind hsh
        refine z_callS (pc' := 55) (As := [.ref a_t_now, .int (zi (0 : Int)), .ref a_t_trial, .int (zi (0 : Int))]) (rest := []) (wr := [(a_t, .inr (8, [.int (zi q33.2), .int (zi c_t_high), .int (zi c_t_wide), .ref a_t_now, .ref a_t_trial, .ref a_t_diary, .int (zi c_t_acts), .int (zi c_t_next), .ref a_t_kept, .ref a_t_isKept, .ref a_t_script, .int (zi c_t_scriptSize), .int (zi c_t_spot), .ref a_t_read, .int (zi c_t_readHigh), .int (zi c_t_readWide), .ref a_t_wanted, .ref a_t_level, .ref a_t_chosen, .ref a_t_best]))]) 4 (zc_X9_copy l D J F (a_p0 := a_t_now) (a_p2 := a_t_trial) (f_p0 := f_t_now) (f_p2 := f_t_trial) (n_p0 := 243) (n_p2 := 243) (p1 := (0 : Int)) (p3 := (0 : Int)) (hn_p0 := (by decide)) (hn_p2 := (by decide)) q36 h37) dX9_runScript_52 gX9_runScript_X9_copy rfl rfl rfl (by decide +kernel) ⟨Nat.le_of_ble_eq_true rfl, Nat.le_of_ble_eq_true rfl⟩ ⟨Nat.le_of_ble_eq_true rfl, Nat.le_of_ble_eq_true rfl⟩ (z_spl_of [0, 1, 2] rfl rfl) rfl rfl (Nat.le_of_ble_eq_true rfl) rfl (fun rv w9 hq => ?_)
        obtain ⟨rfl, rfl⟩ := hq
        refine z_ws [(a_t, .inr (8, [.int (zi q33.2), .int (zi c_t_high), .int (zi c_t_wide), .ref a_t_now, .ref a_t_trial, .ref a_t_diary, .int (zi c_t_acts), .int (zi c_t_next), .ref a_t_kept, .ref a_t_isKept, .ref a_t_script, .int (zi c_t_scriptSize), .int (zi c_t_spot), .ref a_t_read, .int (zi c_t_readHigh), .int (zi c_t_readWide), .ref a_t_wanted, .ref a_t_level, .ref a_t_chosen, .ref a_t_best])), (a_t_now, zI J 243 f_t_now), (a_t_trial, zI J 243 q36)] rfl ?_
        refine z_iconst (pc' := 56) dX9_runScript_55 rfl ?_
        refine z_istore (pc' := 58) [(4, .int (zi (0 : Int))), (0, .ref a_t), (1, .int (zi p0)), (2, .long (zl p1))] dX9_runScript_56 (by decide) rfl rfl ?_
        refine z_perm [(a_t, .inr (8, [.int (zi q33.2), .int (zi c_t_high), .int (zi c_t_wide), .ref a_t_now, .ref a_t_trial, .ref a_t_diary, .int (zi c_t_acts), .int (zi c_t_next), .ref a_t_kept, .ref a_t_isKept, .ref a_t_script, .int (zi c_t_scriptSize), .int (zi c_t_spot), .ref a_t_read, .int (zi c_t_readHigh), .int (zi c_t_readWide), .ref a_t_wanted, .ref a_t_level, .ref a_t_chosen, .ref a_t_best])), (a_t_now, zI J 243 f_t_now), (a_t_trial, zI J 243 q36)] [(0, .ref a_t), (1, .int (zi p0)), (2, .long (zl p1)), (4, .int (zi (0 : Int)))] [0, 1, 2] [1, 2, 3, 0] rfl rfl rfl ?_
        refine zl_X9_runScript_L58_2 (F := F) (hk := fun v54 v55 hsh => ?_) _ _ _ hsh
        refine z_bipush (pc' := 100) dX9_runScript_98 (by decide) rfl ?_
        cases hsh
        exact z_iret rfl dX9_runScript_100 ⟨rfl, rfl⟩
      · replace hsh := zif_f q hsh
        refine z_iconst (pc' := 41) dX9_runScript_40 rfl ?_
        refine z_perm [(a_t, .inr (8, [.int (zi q33.2), .int (zi c_t_high), .int (zi c_t_wide), .ref a_t_now, .ref a_t_trial, .ref a_t_diary, .int (zi c_t_acts), .int (zi c_t_next), .ref a_t_kept, .ref a_t_isKept, .ref a_t_script, .int (zi c_t_scriptSize), .int (zi c_t_spot), .ref a_t_read, .int (zi c_t_readHigh), .int (zi c_t_readWide), .ref a_t_wanted, .ref a_t_level, .ref a_t_chosen, .ref a_t_best])), (a_t_now, zI J 243 f_t_now), (a_t_trial, zI J 243 f_t_trial)] [(0, .ref a_t), (1, .int (zi p0)), (2, .long (zl p1))] [2, 0, 1] [0, 1, 2] rfl rfl rfl ?_
        cases hsh
        exact z_iret rfl dX9_runScript_41 ⟨rfl, rfl⟩
    · replace hsh := zif_f q hsh
      refine z_iconst (pc' := 30) dX9_runScript_29 rfl ?_
      refine z_goto (tgt := 34) dX9_runScript_30 (by decide) ?_
      obtain ⟨q56, h57, hsh⟩ := zbind hsh
      refine z_callV (pc' := 37) (C := RX9) (As := [.int (zi (0 : Int))]) (rest := []) (wr := [(a_t_now, zI J 243 f_t_now), (a_t_trial, zI J 243 f_t_trial)]) 1 (zc_X9_refused l D J F (a_t := a_t) (a_t_now := a_t_now) (a_t_trial := a_t_trial) (a_t_diary := a_t_diary) (a_t_kept := a_t_kept) (a_t_isKept := a_t_isKept) (a_t_script := a_t_script) (a_t_read := a_t_read) (a_t_wanted := a_t_wanted) (a_t_level := a_t_level) (a_t_chosen := a_t_chosen) (a_t_best := a_t_best) (c_t_refusal := c_t_refusal) (c_t_high := c_t_high) (c_t_wide := c_t_wide) (c_t_acts := c_t_acts) (c_t_next := c_t_next) (c_t_scriptSize := c_t_scriptSize) (c_t_spot := c_t_spot) (c_t_readHigh := c_t_readHigh) (c_t_readWide := c_t_readWide) (p0 := (0 : Int))  q56 h57) dX9_runScript_34 gX9_runScript_X9_refused rfl rfl rfl (by decide +kernel) ⟨Nat.le_of_ble_eq_true rfl, Nat.le_of_ble_eq_true rfl⟩ ⟨Nat.le_of_ble_eq_true rfl, Nat.le_of_ble_eq_true rfl⟩ (z_spl_of [0, 1, 2] rfl rfl) rfl rfl rfl rfl (Nat.le_of_ble_eq_true rfl) rfl (fun rv w9 hq => ?_)
      obtain ⟨rfl, rfl⟩ := hq
      refine z_ws [(a_t_now, zI J 243 f_t_now), (a_t_trial, zI J 243 f_t_trial), (a_t, .inr (8, [.int (zi q56.2), .int (zi c_t_high), .int (zi c_t_wide), .ref a_t_now, .ref a_t_trial, .ref a_t_diary, .int (zi c_t_acts), .int (zi c_t_next), .ref a_t_kept, .ref a_t_isKept, .ref a_t_script, .int (zi c_t_scriptSize), .int (zi c_t_spot), .ref a_t_read, .int (zi c_t_readHigh), .int (zi c_t_readWide), .ref a_t_wanted, .ref a_t_level, .ref a_t_chosen, .ref a_t_best]))] rfl ?_
      have g58 := zkr_p hsh
      replace hsh := zkr_k hsh
      refine z_if_eq (pc' := 40) (tgt := 42) dX9_runScript_37 (by decide) g58 rfl (fun q => ?_) (fun q => ?_)
      · replace hsh := zif_t q hsh
        refine z_aload_n (pc' := 43) 0 dX9_runScript_42 rfl rfl rfl ?_
        refine z_getfield (pc' := 46) (C := RX9) (T := TX9) (N := 20) 2 3 dX9_runScript_43 iX9_runScript_X9 rfl rfl (by decide) mX9_runScript_f16 rfl rfl ?_
        refine z_iconst (pc' := 47) dX9_runScript_46 rfl ?_
        refine z_aload_n (pc' := 48) 0 dX9_runScript_47 rfl rfl rfl ?_
        refine z_getfield (pc' := 51) (C := RX9) (T := TX9) (N := 20) 2 4 dX9_runScript_48 iX9_runScript_X9 rfl rfl (by decide) mX9_runScript_f20 rfl rfl ?_
        refine z_iconst (pc' := 52) dX9_runScript_51 rfl ?_
        obtain ⟨q59, h60, hsh⟩ := zbind hsh
        refine z_callS (pc' := 55) (As := [.ref a_t_now, .int (zi (0 : Int)), .ref a_t_trial, .int (zi (0 : Int))]) (rest := []) (wr := [(a_t, .inr (8, [.int (zi q56.2), .int (zi c_t_high), .int (zi c_t_wide), .ref a_t_now, .ref a_t_trial, .ref a_t_diary, .int (zi c_t_acts), .int (zi c_t_next), .ref a_t_kept, .ref a_t_isKept, .ref a_t_script, .int (zi c_t_scriptSize), .int (zi c_t_spot), .ref a_t_read, .int (zi c_t_readHigh), .int (zi c_t_readWide), .ref a_t_wanted, .ref a_t_level, .ref a_t_chosen, .ref a_t_best]))]) 4 (zc_X9_copy l D J F (a_p0 := a_t_now) (a_p2 := a_t_trial) (f_p0 := f_t_now) (f_p2 := f_t_trial) (n_p0 := 243) (n_p2 := 243) (p1 := (0 : Int)) (p3 := (0 : Int)) (hn_p0 := (by decide)) (hn_p2 := (by decide)) q59 h60) dX9_runScript_52 gX9_runScript_X9_copy rfl rfl rfl (by decide +kernel) ⟨Nat.le_of_ble_eq_true rfl, Nat.le_of_ble_eq_true rfl⟩ ⟨Nat.le_of_ble_eq_true rfl, Nat.le_of_ble_eq_true rfl⟩ (z_spl_of [0, 1, 2] rfl rfl) rfl rfl (Nat.le_of_ble_eq_true rfl) rfl (fun rv w9 hq => ?_)
        obtain ⟨rfl, rfl⟩ := hq
        refine z_ws [(a_t, .inr (8, [.int (zi q56.2), .int (zi c_t_high), .int (zi c_t_wide), .ref a_t_now, .ref a_t_trial, .ref a_t_diary, .int (zi c_t_acts), .int (zi c_t_next), .ref a_t_kept, .ref a_t_isKept, .ref a_t_script, .int (zi c_t_scriptSize), .int (zi c_t_spot), .ref a_t_read, .int (zi c_t_readHigh), .int (zi c_t_readWide), .ref a_t_wanted, .ref a_t_level, .ref a_t_chosen, .ref a_t_best])), (a_t_now, zI J 243 f_t_now), (a_t_trial, zI J 243 q59)] rfl ?_
        refine z_iconst (pc' := 56) dX9_runScript_55 rfl ?_
        refine z_istore (pc' := 58) [(4, .int (zi (0 : Int))), (0, .ref a_t), (1, .int (zi p0)), (2, .long (zl p1))] dX9_runScript_56 (by decide) rfl rfl ?_
        refine z_perm [(a_t, .inr (8, [.int (zi q56.2), .int (zi c_t_high), .int (zi c_t_wide), .ref a_t_now, .ref a_t_trial, .ref a_t_diary, .int (zi c_t_acts), .int (zi c_t_next), .ref a_t_kept, .ref a_t_isKept, .ref a_t_script, .int (zi c_t_scriptSize), .int (zi c_t_spot), .ref a_t_read, .int (zi c_t_readHigh), .int (zi c_t_readWide), .ref a_t_wanted, .ref a_t_level, .ref a_t_chosen, .ref a_t_best])), (a_t_now, zI J 243 f_t_now), (a_t_trial, zI J 243 q59)] [(0, .ref a_t), (1, .int (zi p0)), (2, .long (zl p1)), (4, .int (zi (0 : Int)))] [0, 1, 2] [1, 2, 3, 0] rfl rfl rfl ?_
        refine zl_X9_runScript_L58_3 (F := F) (hk := fun v77 v78 hsh => ?_) _ _ _ hsh
        refine z_bipush (pc' := 100) dX9_runScript_98 (by decide) rfl ?_
        cases hsh
        exact z_iret rfl dX9_runScript_100 ⟨rfl, rfl⟩
      · replace hsh := zif_f q hsh
        refine z_iconst (pc' := 41) dX9_runScript_40 rfl ?_
        refine z_perm [(a_t, .inr (8, [.int (zi q56.2), .int (zi c_t_high), .int (zi c_t_wide), .ref a_t_now, .ref a_t_trial, .ref a_t_diary, .int (zi c_t_acts), .int (zi c_t_next), .ref a_t_kept, .ref a_t_isKept, .ref a_t_script, .int (zi c_t_scriptSize), .int (zi c_t_spot), .ref a_t_read, .int (zi c_t_readHigh), .int (zi c_t_readWide), .ref a_t_wanted, .ref a_t_level, .ref a_t_chosen, .ref a_t_best])), (a_t_now, zI J 243 f_t_now), (a_t_trial, zI J 243 f_t_trial)] [(0, .ref a_t), (1, .int (zi p0)), (2, .long (zl p1))] [2, 0, 1] [0, 1, 2] rfl rfl rfl ?_
        cases hsh
        exact z_iret rfl dX9_runScript_41 ⟨rfl, rfl⟩
def sh_X9_simulate_L45 (F : Nat) (p1 : Int) (c_t_high : Int) (c_t_wide : Int) (k : Int → Int → (Nat → Int) → Option (Int × Int × (Nat → Int))) : Nat → Int → Int → (Nat → Int) → Option (Int × Int × (Nat → Int))
  | 0, _, _, _ => none
  | N + 1, v15, v16, v17 => zkr v16 (zkr p1 (if v16 < p1 then zkr (zlushr ((v15 * (6364136223846793005 : Int)) + (1442695040888963407 : Int)) (33 : Int)) (zkr (zmod (zlushr ((v15 * (6364136223846793005 : Int)) + (1442695040888963407 : Int)) (33 : Int)) (4 : Int)) (if (zmod (zlushr ((v15 * (6364136223846793005 : Int)) + (1442695040888963407 : Int)) (33 : Int)) (4 : Int)) = (0 : Int) then (sh_X9_points F c_t_high c_t_wide).bind (fun (q24 : Int) => zkr (zdiv (zlushr ((v15 * (6364136223846793005 : Int)) + (1442695040888963407 : Int)) (33 : Int)) (4 : Int)) (zkr q24 (zkc (¬ q24 = 0) (zkx (((15 : Int) * (zmod (zdiv (zlushr ((v15 * (6364136223846793005 : Int)) + (1442695040888963407 : Int)) (33 : Int)) (4 : Int)) q24)) + (1 : Int)) 243 ((sh_X9_goByOrder F c_t_high c_t_wide (va_up v17 ((((15 : Int) * (zmod (zdiv (zlushr ((v15 * (6364136223846793005 : Int)) + (1442695040888963407 : Int)) (33 : Int)) (4 : Int)) q24)) + (1 : Int))).toNat ((1 : Int) - (v17 ((((15 : Int) * (zmod (zdiv (zlushr ((v15 * (6364136223846793005 : Int)) + (1442695040888963407 : Int)) (33 : Int)) (4 : Int)) q24)) + (1 : Int))).toNat))) 243 (1 : Int)).bind (fun (q30 : Int × (Nat → Int)) => sh_X9_simulate_L45 F p1 c_t_high c_t_wide k N ((v15 * (6364136223846793005 : Int)) + (1442695040888963407 : Int)) (v16 + (1 : Int)) q30.2)))))) else (sh_X9_goByOrder F c_t_high c_t_wide v17 243 (1 : Int)).bind (fun (q22 : Int × (Nat → Int)) => sh_X9_simulate_L45 F p1 c_t_high c_t_wide k N ((v15 * (6364136223846793005 : Int)) + (1442695040888963407 : Int)) (v16 + (1 : Int)) q22.2))) else k v15 v16 v17))
def sh_X9_simulate_L45_2 (F : Nat) (p1 : Int) (c_t_high : Int) (c_t_wide : Int) (k : Int → Int → (Nat → Int) → Option (Int × Int × (Nat → Int))) : Nat → Int → Int → (Nat → Int) → Option (Int × Int × (Nat → Int))
  | 0, _, _, _ => none
  | N + 1, v45, v46, v47 => zkr v46 (zkr p1 (if v46 < p1 then zkr (zlushr ((v45 * (6364136223846793005 : Int)) + (1442695040888963407 : Int)) (33 : Int)) (zkr (zmod (zlushr ((v45 * (6364136223846793005 : Int)) + (1442695040888963407 : Int)) (33 : Int)) (4 : Int)) (if (zmod (zlushr ((v45 * (6364136223846793005 : Int)) + (1442695040888963407 : Int)) (33 : Int)) (4 : Int)) = (0 : Int) then (sh_X9_points F c_t_high c_t_wide).bind (fun (q54 : Int) => zkr (zdiv (zlushr ((v45 * (6364136223846793005 : Int)) + (1442695040888963407 : Int)) (33 : Int)) (4 : Int)) (zkr q54 (zkc (¬ q54 = 0) (zkx (((15 : Int) * (zmod (zdiv (zlushr ((v45 * (6364136223846793005 : Int)) + (1442695040888963407 : Int)) (33 : Int)) (4 : Int)) q54)) + (1 : Int)) 243 ((sh_X9_goByOrder F c_t_high c_t_wide (va_up v47 ((((15 : Int) * (zmod (zdiv (zlushr ((v45 * (6364136223846793005 : Int)) + (1442695040888963407 : Int)) (33 : Int)) (4 : Int)) q54)) + (1 : Int))).toNat ((1 : Int) - (v47 ((((15 : Int) * (zmod (zdiv (zlushr ((v45 * (6364136223846793005 : Int)) + (1442695040888963407 : Int)) (33 : Int)) (4 : Int)) q54)) + (1 : Int))).toNat))) 243 (1 : Int)).bind (fun (q60 : Int × (Nat → Int)) => sh_X9_simulate_L45_2 F p1 c_t_high c_t_wide k N ((v45 * (6364136223846793005 : Int)) + (1442695040888963407 : Int)) (v46 + (1 : Int)) q60.2)))))) else (sh_X9_goByOrder F c_t_high c_t_wide v47 243 (1 : Int)).bind (fun (q52 : Int × (Nat → Int)) => sh_X9_simulate_L45_2 F p1 c_t_high c_t_wide k N ((v45 * (6364136223846793005 : Int)) + (1442695040888963407 : Int)) (v46 + (1 : Int)) q52.2))) else k v45 v46 v47))
def sh_X9_simulate (F : Nat) (c_t_high : Int) (c_t_wide : Int) (f_t_now : Nat → Int) (f_t_trial : Nat → Int) (p0 : Int) (p1 : Int) : Option (Int × Int × (Nat → Int)) := zkr p1 ((sh_X9_in F p1 (1 : Int) (100 : Int)).bind (fun (q2 : Int) => zkr q2 (if q2 = (0 : Int) then (sh_X9_refused F (1 : Int)).bind (fun (q5 : Int × Int) => zkr q5.1 (if q5.1 = (0 : Int) then (sh_X9_copy F f_t_now f_t_trial 243 243 (0 : Int) (0 : Int)).bind (fun (q8 : (Nat → Int)) => sh_X9_simulate_L45 F p1 c_t_high c_t_wide (fun (v32 : Int) (v33 : Int) (v34 : (Nat → Int)) => some (((v34 ((242 : Int)).toNat) - (f_t_now ((242 : Int)).toNat)), q5.2, v34)) F p0 (0 : Int) q8) else some ((0 : Int), q5.2, f_t_trial))) else (sh_X9_refused F (0 : Int)).bind (fun (q35 : Int × Int) => zkr q35.1 (if q35.1 = (0 : Int) then (sh_X9_copy F f_t_now f_t_trial 243 243 (0 : Int) (0 : Int)).bind (fun (q38 : (Nat → Int)) => sh_X9_simulate_L45_2 F p1 c_t_high c_t_wide (fun (v62 : Int) (v63 : Int) (v64 : (Nat → Int)) => some (((v64 ((242 : Int)).toNat) - (f_t_now ((242 : Int)).toNat)), q35.2, v64)) F p0 (0 : Int) q38) else some ((0 : Int), q35.2, f_t_trial))))))
theorem mX9_simulate_k188 : Cond.constantLong RX9 188 (100) ∈ wsX9_simulate := List.mem_of_getElem? (i := 1) rfl
theorem mX9_simulate_f16 : Cond.fieldLink RX9 16 (TX9 3).1 (TX9 3).2.1 (TX9 3).2.2.1 ∈ wsX9_simulate := List.mem_of_getElem? (i := 2) rfl
theorem iX9_simulate_X9 : ∀ w ∈ wsX90, w ∈ wsX9_simulate := fun _ h => (List.mem_cons_of_mem _ (List.mem_append_right _ h))
theorem mX9_simulate_f20 : Cond.fieldLink RX9 20 (TX9 4).1 (TX9 4).2.1 (TX9 4).2.2.1 ∈ wsX9_simulate := List.mem_of_getElem? (i := 3) rfl
theorem mX9_simulate_k190 : Cond.constantLong RX9 190 (6364136223846793005) ∈ wsX9_simulate := List.mem_of_getElem? (i := 4) rfl
theorem mX9_simulate_k192 : Cond.constantLong RX9 192 (1442695040888963407) ∈ wsX9_simulate := List.mem_of_getElem? (i := 5) rfl
set_option maxRecDepth 100000 in
set_option maxHeartbeats 4000000 in
theorem zl_X9_simulate_L45 {p : Program} {l : Launch} {e : Env} {s : State} {m : MethodId} {args : Array Value} {below : List Frame} {meth : Method} {c : Code} {A : Nat → Prop} {D : va_G} {J : Nat → ClassId} {F : Nat} {p1 : Int} {c_t_high : Int} {c_t_wide : Int} {a_t : Nat} {q5 : Int × Int} {a_t_now : Nat} {a_t_trial : Nat} {a_t_diary : Nat} {c_t_acts : Int} {c_t_next : Int} {a_t_kept : Nat} {a_t_isKept : Nat} {a_t_script : Nat} {c_t_scriptSize : Int} {c_t_spot : Int} {a_t_read : Nat} {c_t_readHigh : Int} {c_t_readWide : Int} {a_t_wanted : Nat} {a_t_level : Nat} {a_t_chosen : Nat} {a_t_best : Nat} {f_t_now : Nat → Int} {res : Int × Int × (Nat → Int)} {k : Int → Int → (Nat → Int) → Option (Int × Int × (Nat → Int))} (hk : ∀ (v15' : Int) (v16' : Int) (v17' : (Nat → Int)), k v15' v16' v17' = some res → Z p l e ({ frames := 5, cells := 0, slots := 0, locals := 126 } : Room) s m args below meth c (MQ below (zQ D J A (fun rv w9 => rv = some (.int (zi res.1)) ∧ w9 = [(a_t, .inr (8, [.int (zi res.2.1), .int (zi c_t_high), .int (zi c_t_wide), .ref a_t_now, .ref a_t_trial, .ref a_t_diary, .int (zi c_t_acts), .int (zi c_t_next), .ref a_t_kept, .ref a_t_isKept, .ref a_t_script, .int (zi c_t_scriptSize), .int (zi c_t_spot), .ref a_t_read, .int (zi c_t_readHigh), .int (zi c_t_readWide), .ref a_t_wanted, .ref a_t_level, .ref a_t_chosen, .ref a_t_best])), (a_t_now, zI J 243 f_t_now), (a_t_trial, zI J 243 res.2.2)])) args s 0 0 A) cX9_simulate 9 wsX9_simulate RX9 D J A (some .int) (yX9_simulate.name, []) 0 0 [(a_t, .inr (8, [.int (zi q5.2), .int (zi c_t_high), .int (zi c_t_wide), .ref a_t_now, .ref a_t_trial, .ref a_t_diary, .int (zi c_t_acts), .int (zi c_t_next), .ref a_t_kept, .ref a_t_isKept, .ref a_t_script, .int (zi c_t_scriptSize), .int (zi c_t_spot), .ref a_t_read, .int (zi c_t_readHigh), .int (zi c_t_readWide), .ref a_t_wanted, .ref a_t_level, .ref a_t_chosen, .ref a_t_best])), (a_t_now, zI J 243 f_t_now), (a_t_trial, zI J 243 v17')] [(0, .ref a_t)] 131 []) : ∀ (N : Nat) (v15 : Int) (v16 : Int) (v17 : (Nat → Int)), sh_X9_simulate_L45 F p1 c_t_high c_t_wide k N v15 v16 v17 = some res → Z p l e ({ frames := 5, cells := 0, slots := 0, locals := 126 } : Room) s m args below meth c (MQ below (zQ D J A (fun rv w9 => rv = some (.int (zi res.1)) ∧ w9 = [(a_t, .inr (8, [.int (zi res.2.1), .int (zi c_t_high), .int (zi c_t_wide), .ref a_t_now, .ref a_t_trial, .ref a_t_diary, .int (zi c_t_acts), .int (zi c_t_next), .ref a_t_kept, .ref a_t_isKept, .ref a_t_script, .int (zi c_t_scriptSize), .int (zi c_t_spot), .ref a_t_read, .int (zi c_t_readHigh), .int (zi c_t_readWide), .ref a_t_wanted, .ref a_t_level, .ref a_t_chosen, .ref a_t_best])), (a_t_now, zI J 243 f_t_now), (a_t_trial, zI J 243 res.2.2)])) args s 0 0 A) cX9_simulate 9 wsX9_simulate RX9 D J A (some .int) (yX9_simulate.name, []) 0 0 [(a_t, .inr (8, [.int (zi q5.2), .int (zi c_t_high), .int (zi c_t_wide), .ref a_t_now, .ref a_t_trial, .ref a_t_diary, .int (zi c_t_acts), .int (zi c_t_next), .ref a_t_kept, .ref a_t_isKept, .ref a_t_script, .int (zi c_t_scriptSize), .int (zi c_t_spot), .ref a_t_read, .int (zi c_t_readHigh), .int (zi c_t_readWide), .ref a_t_wanted, .ref a_t_level, .ref a_t_chosen, .ref a_t_best])), (a_t_now, zI J 243 f_t_now), (a_t_trial, zI J 243 v17)] [(0, .ref a_t), (3, .int (zi p1)), (4, .long (zl v15)), (6, .int (zi v16))] 45 [] := by
  intro N
  induction N with
  | zero =>
    intro v15 v16 v17 hsh
    exact absurd hsh (by simp [sh_X9_simulate_L45])
  | succ N ih =>
    intro v15 v16 v17 hsh
    rw [sh_X9_simulate_L45] at hsh
    refine z_iload (pc' := 47) 3 dX9_simulate_45 rfl rfl ?_
    refine z_iload_n (pc' := 48) 1 dX9_simulate_47 rfl rfl rfl ?_
    have g18 := zkr_p hsh
    replace hsh := zkr_k hsh
    have g19 := zkr_p hsh
    replace hsh := zkr_k hsh
    refine z_icmp_ge (pc' := 51) (tgt := 131) dX9_simulate_48 (by decide) g18 g19 rfl (fun q => ?_) (fun q => ?_)
    · replace hsh := zif_f q hsh
      refine z_perm [(a_t, .inr (8, [.int (zi q5.2), .int (zi c_t_high), .int (zi c_t_wide), .ref a_t_now, .ref a_t_trial, .ref a_t_diary, .int (zi c_t_acts), .int (zi c_t_next), .ref a_t_kept, .ref a_t_isKept, .ref a_t_script, .int (zi c_t_scriptSize), .int (zi c_t_spot), .ref a_t_read, .int (zi c_t_readHigh), .int (zi c_t_readWide), .ref a_t_wanted, .ref a_t_level, .ref a_t_chosen, .ref a_t_best])), (a_t_now, zI J 243 f_t_now), (a_t_trial, zI J 243 v17)] [(0, .ref a_t)] [0, 1, 2] [0] rfl rfl rfl ?_
      exact hk _ _ _ hsh
    · replace hsh := zif_t q hsh
      refine z_lload (pc' := 53) 2 dX9_simulate_51 rfl rfl ?_
      refine z_ldc2 (pc' := 56) (6364136223846793005 : Int) dX9_simulate_53 mX9_simulate_k190 (by decide) rfl ?_
      refine z_lmul (pc' := 57) dX9_simulate_56 rfl ?_
      refine z_ldc2 (pc' := 60) (1442695040888963407 : Int) dX9_simulate_57 mX9_simulate_k192 (by decide) rfl ?_
      refine z_ladd (pc' := 61) dX9_simulate_60 rfl ?_
      refine z_lstore (pc' := 63) [(4, .long (zl ((v15 * (6364136223846793005 : Int)) + (1442695040888963407 : Int)))), (0, .ref a_t), (3, .int (zi p1)), (6, .int (zi v16))] dX9_simulate_61 (by decide) rfl rfl ?_
      refine z_lload (pc' := 65) 0 dX9_simulate_63 rfl rfl ?_
      refine z_bipush (pc' := 67) dX9_simulate_65 (by decide) rfl ?_
      refine z_lushr (pc' := 68) dX9_simulate_67 rfl ?_
      refine z_l2i (pc' := 69) dX9_simulate_68 rfl ?_
      refine z_istore (pc' := 71) [(7, .int (zi (zlushr ((v15 * (6364136223846793005 : Int)) + (1442695040888963407 : Int)) (33 : Int)))), (4, .long (zl ((v15 * (6364136223846793005 : Int)) + (1442695040888963407 : Int)))), (0, .ref a_t), (3, .int (zi p1)), (6, .int (zi v16))] dX9_simulate_69 (by decide) rfl rfl ?_
      refine z_iload (pc' := 73) 0 dX9_simulate_71 rfl rfl ?_
      refine z_iconst (pc' := 74) dX9_simulate_73 rfl ?_
      have g20 := zkr_p hsh
      replace hsh := zkr_k hsh
      refine z_irem (pc' := 75) dX9_simulate_74 g20 (by decide) (by decide) rfl ?_
      have g21 := zkr_p hsh
      replace hsh := zkr_k hsh
      refine z_if_ne (pc' := 78) (tgt := 115) dX9_simulate_75 (by decide) g21 rfl (fun q => ?_) (fun q => ?_)
      · replace hsh := zif_f q hsh
        refine z_aload_n (pc' := 116) 2 dX9_simulate_115 rfl rfl rfl ?_
        refine z_aload_n (pc' := 117) 2 dX9_simulate_116 rfl rfl rfl ?_
        refine z_getfield (pc' := 120) (C := RX9) (T := TX9) (N := 20) 0 4 dX9_simulate_117 iX9_simulate_X9 rfl rfl (by decide) mX9_simulate_f20 rfl rfl ?_
        refine z_iconst (pc' := 121) dX9_simulate_120 rfl ?_
        obtain ⟨q22, h23, hsh⟩ := zbind hsh
        refine z_callV (pc' := 124) (C := RX9) (As := [.ref a_t_trial, .int (zi (1 : Int))]) (rest := []) (wr := [(a_t_now, zI J 243 f_t_now)]) 2 (zc_X9_goByOrder l D J F (a_t := a_t) (a_p0 := a_t_trial) (a_t_now := a_t_now) (a_t_trial := a_t_trial) (a_t_diary := a_t_diary) (a_t_kept := a_t_kept) (a_t_isKept := a_t_isKept) (a_t_script := a_t_script) (a_t_read := a_t_read) (a_t_wanted := a_t_wanted) (a_t_level := a_t_level) (a_t_chosen := a_t_chosen) (a_t_best := a_t_best) (c_t_refusal := q5.2) (c_t_high := c_t_high) (c_t_wide := c_t_wide) (c_t_acts := c_t_acts) (c_t_next := c_t_next) (c_t_scriptSize := c_t_scriptSize) (c_t_spot := c_t_spot) (c_t_readHigh := c_t_readHigh) (c_t_readWide := c_t_readWide) (f_p0 := v17) (n_p0 := 243) (p1 := (1 : Int)) (hn_p0 := (by decide)) q22 h23) dX9_simulate_121 gX9_simulate_X9_goByOrder rfl rfl rfl (by decide +kernel) ⟨Nat.le_of_ble_eq_true rfl, Nat.le_of_ble_eq_true rfl⟩ ⟨Nat.le_of_ble_eq_true rfl, Nat.le_of_ble_eq_true rfl⟩ (z_spl_of [0, 2, 1] rfl rfl) rfl rfl rfl rfl (Nat.le_of_ble_eq_true rfl) rfl (fun rv w9 hq => ?_)
        obtain ⟨rfl, rfl⟩ := hq
        refine z_ws [(a_t_now, zI J 243 f_t_now), (a_t, .inr (8, [.int (zi q5.2), .int (zi c_t_high), .int (zi c_t_wide), .ref a_t_now, .ref a_t_trial, .ref a_t_diary, .int (zi c_t_acts), .int (zi c_t_next), .ref a_t_kept, .ref a_t_isKept, .ref a_t_script, .int (zi c_t_scriptSize), .int (zi c_t_spot), .ref a_t_read, .int (zi c_t_readHigh), .int (zi c_t_readWide), .ref a_t_wanted, .ref a_t_level, .ref a_t_chosen, .ref a_t_best])), (a_t_trial, zI J 243 q22.2)] rfl ?_
        refine z_pop (pc' := 125) dX9_simulate_124 rfl rfl ?_
        refine z_iinc (pc' := 128) [(6, .int (zi (v16 + (1 : Int)))), (7, .int (zi (zlushr ((v15 * (6364136223846793005 : Int)) + (1442695040888963407 : Int)) (33 : Int)))), (4, .long (zl ((v15 * (6364136223846793005 : Int)) + (1442695040888963407 : Int)))), (0, .ref a_t), (3, .int (zi p1))] 4 dX9_simulate_125 rfl (by decide) rfl rfl ?_
        refine z_goto (tgt := 45) dX9_simulate_128 (by decide) ?_
        refine z_perm [(a_t, .inr (8, [.int (zi q5.2), .int (zi c_t_high), .int (zi c_t_wide), .ref a_t_now, .ref a_t_trial, .ref a_t_diary, .int (zi c_t_acts), .int (zi c_t_next), .ref a_t_kept, .ref a_t_isKept, .ref a_t_script, .int (zi c_t_scriptSize), .int (zi c_t_spot), .ref a_t_read, .int (zi c_t_readHigh), .int (zi c_t_readWide), .ref a_t_wanted, .ref a_t_level, .ref a_t_chosen, .ref a_t_best])), (a_t_now, zI J 243 f_t_now), (a_t_trial, zI J 243 q22.2)] [(0, .ref a_t), (3, .int (zi p1)), (4, .long (zl ((v15 * (6364136223846793005 : Int)) + (1442695040888963407 : Int)))), (6, .int (zi (v16 + (1 : Int))))] [1, 0, 2] [3, 4, 2, 0] rfl rfl rfl ?_
        exact ih _ _ _ hsh
      · replace hsh := zif_t q hsh
        refine z_iload (pc' := 80) 0 dX9_simulate_78 rfl rfl ?_
        refine z_iconst (pc' := 81) dX9_simulate_80 rfl ?_
        refine z_idiv (pc' := 82) dX9_simulate_81 g20 (by decide) (by decide) rfl ?_
        refine z_aload_n (pc' := 83) 2 dX9_simulate_82 rfl rfl rfl ?_
        obtain ⟨q24, h25, hsh⟩ := zbind hsh
        refine z_callV (pc' := 86) (C := RX9) (As := []) (rest := [.int (zi (zdiv (zlushr ((v15 * (6364136223846793005 : Int)) + (1442695040888963407 : Int)) (33 : Int)) (4 : Int)))]) (wr := [(a_t_now, zI J 243 f_t_now), (a_t_trial, zI J 243 v17)]) 0 (zc_X9_points l D J F (a_t := a_t) (a_t_now := a_t_now) (a_t_trial := a_t_trial) (a_t_diary := a_t_diary) (a_t_kept := a_t_kept) (a_t_isKept := a_t_isKept) (a_t_script := a_t_script) (a_t_read := a_t_read) (a_t_wanted := a_t_wanted) (a_t_level := a_t_level) (a_t_chosen := a_t_chosen) (a_t_best := a_t_best) (c_t_refusal := q5.2) (c_t_high := c_t_high) (c_t_wide := c_t_wide) (c_t_acts := c_t_acts) (c_t_next := c_t_next) (c_t_scriptSize := c_t_scriptSize) (c_t_spot := c_t_spot) (c_t_readHigh := c_t_readHigh) (c_t_readWide := c_t_readWide)  q24 h25) dX9_simulate_83 gX9_simulate_X9_points rfl rfl rfl (by decide +kernel) ⟨Nat.le_of_ble_eq_true rfl, Nat.le_of_ble_eq_true rfl⟩ ⟨Nat.le_of_ble_eq_true rfl, Nat.le_of_ble_eq_true rfl⟩ (z_spl_of [0, 1, 2] rfl rfl) rfl rfl rfl rfl (Nat.le_of_ble_eq_true rfl) rfl (fun rv w9 hq => ?_)
        obtain ⟨rfl, rfl⟩ := hq
        refine z_ws [(a_t_now, zI J 243 f_t_now), (a_t_trial, zI J 243 v17), (a_t, .inr (8, [.int (zi q5.2), .int (zi c_t_high), .int (zi c_t_wide), .ref a_t_now, .ref a_t_trial, .ref a_t_diary, .int (zi c_t_acts), .int (zi c_t_next), .ref a_t_kept, .ref a_t_isKept, .ref a_t_script, .int (zi c_t_scriptSize), .int (zi c_t_spot), .ref a_t_read, .int (zi c_t_readHigh), .int (zi c_t_readWide), .ref a_t_wanted, .ref a_t_level, .ref a_t_chosen, .ref a_t_best]))] rfl ?_
        have g26 := zkr_p hsh
        replace hsh := zkr_k hsh
        have g27 := zkr_p hsh
        replace hsh := zkr_k hsh
        have g28 := zkc_p hsh
        replace hsh := zkc_k hsh
        refine z_irem (pc' := 87) dX9_simulate_86 g26 g27 g28 rfl ?_
        refine z_istore (pc' := 89) [(8, .int (zi (zmod (zdiv (zlushr ((v15 * (6364136223846793005 : Int)) + (1442695040888963407 : Int)) (33 : Int)) (4 : Int)) q24))), (7, .int (zi (zlushr ((v15 * (6364136223846793005 : Int)) + (1442695040888963407 : Int)) (33 : Int)))), (4, .long (zl ((v15 * (6364136223846793005 : Int)) + (1442695040888963407 : Int)))), (0, .ref a_t), (3, .int (zi p1)), (6, .int (zi v16))] dX9_simulate_87 (by decide) rfl rfl ?_
        refine z_aload_n (pc' := 90) 3 dX9_simulate_89 rfl rfl rfl ?_
        refine z_getfield (pc' := 93) (C := RX9) (T := TX9) (N := 20) 2 4 dX9_simulate_90 iX9_simulate_X9 rfl rfl (by decide) mX9_simulate_f20 rfl rfl ?_
        refine z_bipush (pc' := 95) dX9_simulate_93 (by decide) rfl ?_
        refine z_iload (pc' := 97) 0 dX9_simulate_95 rfl rfl ?_
        refine z_imul (pc' := 98) dX9_simulate_97 rfl ?_
        refine z_iconst (pc' := 99) dX9_simulate_98 rfl ?_
        refine z_iadd (pc' := 100) dX9_simulate_99 rfl ?_
        refine z_iconst (pc' := 101) dX9_simulate_100 rfl ?_
        refine z_aload_n (pc' := 102) 3 dX9_simulate_101 rfl rfl rfl ?_
        refine z_getfield (pc' := 105) (C := RX9) (T := TX9) (N := 20) 2 4 dX9_simulate_102 iX9_simulate_X9 rfl rfl (by decide) mX9_simulate_f20 rfl rfl ?_
        refine z_bipush (pc' := 107) dX9_simulate_105 (by decide) rfl ?_
        refine z_iload (pc' := 109) 0 dX9_simulate_107 rfl rfl ?_
        refine z_imul (pc' := 110) dX9_simulate_109 rfl ?_
        refine z_iconst (pc' := 111) dX9_simulate_110 rfl ?_
        refine z_iadd (pc' := 112) dX9_simulate_111 rfl ?_
        have g29 := zkx_p hsh
        replace hsh := zkx_k hsh
        refine z_iaload (pc' := 113) 1 dX9_simulate_112 rfl (by decide) g29 rfl ?_
        refine z_isub (pc' := 114) dX9_simulate_113 rfl ?_
        refine z_iastore (pc' := 115) 1 [(a_t_now, zI J 243 f_t_now), (a_t_trial, zI J 243 (va_up v17 ((((15 : Int) * (zmod (zdiv (zlushr ((v15 * (6364136223846793005 : Int)) + (1442695040888963407 : Int)) (33 : Int)) (4 : Int)) q24)) + (1 : Int))).toNat ((1 : Int) - (v17 ((((15 : Int) * (zmod (zdiv (zlushr ((v15 * (6364136223846793005 : Int)) + (1442695040888963407 : Int)) (33 : Int)) (4 : Int)) q24)) + (1 : Int))).toNat)))), (a_t, .inr (8, [.int (zi q5.2), .int (zi c_t_high), .int (zi c_t_wide), .ref a_t_now, .ref a_t_trial, .ref a_t_diary, .int (zi c_t_acts), .int (zi c_t_next), .ref a_t_kept, .ref a_t_isKept, .ref a_t_script, .int (zi c_t_scriptSize), .int (zi c_t_spot), .ref a_t_read, .int (zi c_t_readHigh), .int (zi c_t_readWide), .ref a_t_wanted, .ref a_t_level, .ref a_t_chosen, .ref a_t_best]))] dX9_simulate_114 rfl (by decide) g29 rfl rfl ?_
        refine z_aload_n (pc' := 116) 3 dX9_simulate_115 rfl rfl rfl ?_
        refine z_aload_n (pc' := 117) 3 dX9_simulate_116 rfl rfl rfl ?_
        refine z_getfield (pc' := 120) (C := RX9) (T := TX9) (N := 20) 2 4 dX9_simulate_117 iX9_simulate_X9 rfl rfl (by decide) mX9_simulate_f20 rfl rfl ?_
        refine z_iconst (pc' := 121) dX9_simulate_120 rfl ?_
        obtain ⟨q30, h31, hsh⟩ := zbind hsh
        refine z_callV (pc' := 124) (C := RX9) (As := [.ref a_t_trial, .int (zi (1 : Int))]) (rest := []) (wr := [(a_t_now, zI J 243 f_t_now)]) 2 (zc_X9_goByOrder l D J F (a_t := a_t) (a_p0 := a_t_trial) (a_t_now := a_t_now) (a_t_trial := a_t_trial) (a_t_diary := a_t_diary) (a_t_kept := a_t_kept) (a_t_isKept := a_t_isKept) (a_t_script := a_t_script) (a_t_read := a_t_read) (a_t_wanted := a_t_wanted) (a_t_level := a_t_level) (a_t_chosen := a_t_chosen) (a_t_best := a_t_best) (c_t_refusal := q5.2) (c_t_high := c_t_high) (c_t_wide := c_t_wide) (c_t_acts := c_t_acts) (c_t_next := c_t_next) (c_t_scriptSize := c_t_scriptSize) (c_t_spot := c_t_spot) (c_t_readHigh := c_t_readHigh) (c_t_readWide := c_t_readWide) (f_p0 := (va_up v17 ((((15 : Int) * (zmod (zdiv (zlushr ((v15 * (6364136223846793005 : Int)) + (1442695040888963407 : Int)) (33 : Int)) (4 : Int)) q24)) + (1 : Int))).toNat ((1 : Int) - (v17 ((((15 : Int) * (zmod (zdiv (zlushr ((v15 * (6364136223846793005 : Int)) + (1442695040888963407 : Int)) (33 : Int)) (4 : Int)) q24)) + (1 : Int))).toNat)))) (n_p0 := 243) (p1 := (1 : Int)) (hn_p0 := (by decide)) q30 h31) dX9_simulate_121 gX9_simulate_X9_goByOrder rfl rfl rfl (by decide +kernel) ⟨Nat.le_of_ble_eq_true rfl, Nat.le_of_ble_eq_true rfl⟩ ⟨Nat.le_of_ble_eq_true rfl, Nat.le_of_ble_eq_true rfl⟩ (z_spl_of [2, 1, 0] rfl rfl) rfl rfl rfl rfl (Nat.le_of_ble_eq_true rfl) rfl (fun rv w9 hq => ?_)
        obtain ⟨rfl, rfl⟩ := hq
        refine z_ws [(a_t_now, zI J 243 f_t_now), (a_t, .inr (8, [.int (zi q5.2), .int (zi c_t_high), .int (zi c_t_wide), .ref a_t_now, .ref a_t_trial, .ref a_t_diary, .int (zi c_t_acts), .int (zi c_t_next), .ref a_t_kept, .ref a_t_isKept, .ref a_t_script, .int (zi c_t_scriptSize), .int (zi c_t_spot), .ref a_t_read, .int (zi c_t_readHigh), .int (zi c_t_readWide), .ref a_t_wanted, .ref a_t_level, .ref a_t_chosen, .ref a_t_best])), (a_t_trial, zI J 243 q30.2)] rfl ?_
        refine z_pop (pc' := 125) dX9_simulate_124 rfl rfl ?_
        refine z_iinc (pc' := 128) [(6, .int (zi (v16 + (1 : Int)))), (8, .int (zi (zmod (zdiv (zlushr ((v15 * (6364136223846793005 : Int)) + (1442695040888963407 : Int)) (33 : Int)) (4 : Int)) q24))), (7, .int (zi (zlushr ((v15 * (6364136223846793005 : Int)) + (1442695040888963407 : Int)) (33 : Int)))), (4, .long (zl ((v15 * (6364136223846793005 : Int)) + (1442695040888963407 : Int)))), (0, .ref a_t), (3, .int (zi p1))] 5 dX9_simulate_125 rfl (by decide) rfl rfl ?_
        refine z_goto (tgt := 45) dX9_simulate_128 (by decide) ?_
        refine z_perm [(a_t, .inr (8, [.int (zi q5.2), .int (zi c_t_high), .int (zi c_t_wide), .ref a_t_now, .ref a_t_trial, .ref a_t_diary, .int (zi c_t_acts), .int (zi c_t_next), .ref a_t_kept, .ref a_t_isKept, .ref a_t_script, .int (zi c_t_scriptSize), .int (zi c_t_spot), .ref a_t_read, .int (zi c_t_readHigh), .int (zi c_t_readWide), .ref a_t_wanted, .ref a_t_level, .ref a_t_chosen, .ref a_t_best])), (a_t_now, zI J 243 f_t_now), (a_t_trial, zI J 243 q30.2)] [(0, .ref a_t), (3, .int (zi p1)), (4, .long (zl ((v15 * (6364136223846793005 : Int)) + (1442695040888963407 : Int)))), (6, .int (zi (v16 + (1 : Int))))] [1, 0, 2] [4, 5, 3, 0] rfl rfl rfl ?_
        exact ih _ _ _ hsh
set_option maxRecDepth 100000 in
set_option maxHeartbeats 4000000 in
theorem zl_X9_simulate_L45_2 {p : Program} {l : Launch} {e : Env} {s : State} {m : MethodId} {args : Array Value} {below : List Frame} {meth : Method} {c : Code} {A : Nat → Prop} {D : va_G} {J : Nat → ClassId} {F : Nat} {p1 : Int} {c_t_high : Int} {c_t_wide : Int} {a_t : Nat} {q35 : Int × Int} {a_t_now : Nat} {a_t_trial : Nat} {a_t_diary : Nat} {c_t_acts : Int} {c_t_next : Int} {a_t_kept : Nat} {a_t_isKept : Nat} {a_t_script : Nat} {c_t_scriptSize : Int} {c_t_spot : Int} {a_t_read : Nat} {c_t_readHigh : Int} {c_t_readWide : Int} {a_t_wanted : Nat} {a_t_level : Nat} {a_t_chosen : Nat} {a_t_best : Nat} {f_t_now : Nat → Int} {res : Int × Int × (Nat → Int)} {k : Int → Int → (Nat → Int) → Option (Int × Int × (Nat → Int))} (hk : ∀ (v45' : Int) (v46' : Int) (v47' : (Nat → Int)), k v45' v46' v47' = some res → Z p l e ({ frames := 5, cells := 0, slots := 0, locals := 126 } : Room) s m args below meth c (MQ below (zQ D J A (fun rv w9 => rv = some (.int (zi res.1)) ∧ w9 = [(a_t, .inr (8, [.int (zi res.2.1), .int (zi c_t_high), .int (zi c_t_wide), .ref a_t_now, .ref a_t_trial, .ref a_t_diary, .int (zi c_t_acts), .int (zi c_t_next), .ref a_t_kept, .ref a_t_isKept, .ref a_t_script, .int (zi c_t_scriptSize), .int (zi c_t_spot), .ref a_t_read, .int (zi c_t_readHigh), .int (zi c_t_readWide), .ref a_t_wanted, .ref a_t_level, .ref a_t_chosen, .ref a_t_best])), (a_t_now, zI J 243 f_t_now), (a_t_trial, zI J 243 res.2.2)])) args s 0 0 A) cX9_simulate 9 wsX9_simulate RX9 D J A (some .int) (yX9_simulate.name, []) 0 0 [(a_t, .inr (8, [.int (zi q35.2), .int (zi c_t_high), .int (zi c_t_wide), .ref a_t_now, .ref a_t_trial, .ref a_t_diary, .int (zi c_t_acts), .int (zi c_t_next), .ref a_t_kept, .ref a_t_isKept, .ref a_t_script, .int (zi c_t_scriptSize), .int (zi c_t_spot), .ref a_t_read, .int (zi c_t_readHigh), .int (zi c_t_readWide), .ref a_t_wanted, .ref a_t_level, .ref a_t_chosen, .ref a_t_best])), (a_t_now, zI J 243 f_t_now), (a_t_trial, zI J 243 v47')] [(0, .ref a_t)] 131 []) : ∀ (N : Nat) (v45 : Int) (v46 : Int) (v47 : (Nat → Int)), sh_X9_simulate_L45_2 F p1 c_t_high c_t_wide k N v45 v46 v47 = some res → Z p l e ({ frames := 5, cells := 0, slots := 0, locals := 126 } : Room) s m args below meth c (MQ below (zQ D J A (fun rv w9 => rv = some (.int (zi res.1)) ∧ w9 = [(a_t, .inr (8, [.int (zi res.2.1), .int (zi c_t_high), .int (zi c_t_wide), .ref a_t_now, .ref a_t_trial, .ref a_t_diary, .int (zi c_t_acts), .int (zi c_t_next), .ref a_t_kept, .ref a_t_isKept, .ref a_t_script, .int (zi c_t_scriptSize), .int (zi c_t_spot), .ref a_t_read, .int (zi c_t_readHigh), .int (zi c_t_readWide), .ref a_t_wanted, .ref a_t_level, .ref a_t_chosen, .ref a_t_best])), (a_t_now, zI J 243 f_t_now), (a_t_trial, zI J 243 res.2.2)])) args s 0 0 A) cX9_simulate 9 wsX9_simulate RX9 D J A (some .int) (yX9_simulate.name, []) 0 0 [(a_t, .inr (8, [.int (zi q35.2), .int (zi c_t_high), .int (zi c_t_wide), .ref a_t_now, .ref a_t_trial, .ref a_t_diary, .int (zi c_t_acts), .int (zi c_t_next), .ref a_t_kept, .ref a_t_isKept, .ref a_t_script, .int (zi c_t_scriptSize), .int (zi c_t_spot), .ref a_t_read, .int (zi c_t_readHigh), .int (zi c_t_readWide), .ref a_t_wanted, .ref a_t_level, .ref a_t_chosen, .ref a_t_best])), (a_t_now, zI J 243 f_t_now), (a_t_trial, zI J 243 v47)] [(0, .ref a_t), (3, .int (zi p1)), (4, .long (zl v45)), (6, .int (zi v46))] 45 [] := by
  intro N
  induction N with
  | zero =>
    intro v45 v46 v47 hsh
    exact absurd hsh (by simp [sh_X9_simulate_L45_2])
  | succ N ih =>
    intro v45 v46 v47 hsh
    rw [sh_X9_simulate_L45_2] at hsh
    refine z_iload (pc' := 47) 3 dX9_simulate_45 rfl rfl ?_
    refine z_iload_n (pc' := 48) 1 dX9_simulate_47 rfl rfl rfl ?_
    have g48 := zkr_p hsh
    replace hsh := zkr_k hsh
    have g49 := zkr_p hsh
    replace hsh := zkr_k hsh
    refine z_icmp_ge (pc' := 51) (tgt := 131) dX9_simulate_48 (by decide) g48 g49 rfl (fun q => ?_) (fun q => ?_)
    · replace hsh := zif_f q hsh
      refine z_perm [(a_t, .inr (8, [.int (zi q35.2), .int (zi c_t_high), .int (zi c_t_wide), .ref a_t_now, .ref a_t_trial, .ref a_t_diary, .int (zi c_t_acts), .int (zi c_t_next), .ref a_t_kept, .ref a_t_isKept, .ref a_t_script, .int (zi c_t_scriptSize), .int (zi c_t_spot), .ref a_t_read, .int (zi c_t_readHigh), .int (zi c_t_readWide), .ref a_t_wanted, .ref a_t_level, .ref a_t_chosen, .ref a_t_best])), (a_t_now, zI J 243 f_t_now), (a_t_trial, zI J 243 v47)] [(0, .ref a_t)] [0, 1, 2] [0] rfl rfl rfl ?_
      exact hk _ _ _ hsh
    · replace hsh := zif_t q hsh
      refine z_lload (pc' := 53) 2 dX9_simulate_51 rfl rfl ?_
      refine z_ldc2 (pc' := 56) (6364136223846793005 : Int) dX9_simulate_53 mX9_simulate_k190 (by decide) rfl ?_
      refine z_lmul (pc' := 57) dX9_simulate_56 rfl ?_
      refine z_ldc2 (pc' := 60) (1442695040888963407 : Int) dX9_simulate_57 mX9_simulate_k192 (by decide) rfl ?_
      refine z_ladd (pc' := 61) dX9_simulate_60 rfl ?_
      refine z_lstore (pc' := 63) [(4, .long (zl ((v45 * (6364136223846793005 : Int)) + (1442695040888963407 : Int)))), (0, .ref a_t), (3, .int (zi p1)), (6, .int (zi v46))] dX9_simulate_61 (by decide) rfl rfl ?_
      refine z_lload (pc' := 65) 0 dX9_simulate_63 rfl rfl ?_
      refine z_bipush (pc' := 67) dX9_simulate_65 (by decide) rfl ?_
      refine z_lushr (pc' := 68) dX9_simulate_67 rfl ?_
      refine z_l2i (pc' := 69) dX9_simulate_68 rfl ?_
      refine z_istore (pc' := 71) [(7, .int (zi (zlushr ((v45 * (6364136223846793005 : Int)) + (1442695040888963407 : Int)) (33 : Int)))), (4, .long (zl ((v45 * (6364136223846793005 : Int)) + (1442695040888963407 : Int)))), (0, .ref a_t), (3, .int (zi p1)), (6, .int (zi v46))] dX9_simulate_69 (by decide) rfl rfl ?_
      refine z_iload (pc' := 73) 0 dX9_simulate_71 rfl rfl ?_
      refine z_iconst (pc' := 74) dX9_simulate_73 rfl ?_
      have g50 := zkr_p hsh
      replace hsh := zkr_k hsh
      refine z_irem (pc' := 75) dX9_simulate_74 g50 (by decide) (by decide) rfl ?_
      have g51 := zkr_p hsh
      replace hsh := zkr_k hsh
      refine z_if_ne (pc' := 78) (tgt := 115) dX9_simulate_75 (by decide) g51 rfl (fun q => ?_) (fun q => ?_)
      · replace hsh := zif_f q hsh
        refine z_aload_n (pc' := 116) 2 dX9_simulate_115 rfl rfl rfl ?_
        refine z_aload_n (pc' := 117) 2 dX9_simulate_116 rfl rfl rfl ?_
        refine z_getfield (pc' := 120) (C := RX9) (T := TX9) (N := 20) 0 4 dX9_simulate_117 iX9_simulate_X9 rfl rfl (by decide) mX9_simulate_f20 rfl rfl ?_
        refine z_iconst (pc' := 121) dX9_simulate_120 rfl ?_
        obtain ⟨q52, h53, hsh⟩ := zbind hsh
        refine z_callV (pc' := 124) (C := RX9) (As := [.ref a_t_trial, .int (zi (1 : Int))]) (rest := []) (wr := [(a_t_now, zI J 243 f_t_now)]) 2 (zc_X9_goByOrder l D J F (a_t := a_t) (a_p0 := a_t_trial) (a_t_now := a_t_now) (a_t_trial := a_t_trial) (a_t_diary := a_t_diary) (a_t_kept := a_t_kept) (a_t_isKept := a_t_isKept) (a_t_script := a_t_script) (a_t_read := a_t_read) (a_t_wanted := a_t_wanted) (a_t_level := a_t_level) (a_t_chosen := a_t_chosen) (a_t_best := a_t_best) (c_t_refusal := q35.2) (c_t_high := c_t_high) (c_t_wide := c_t_wide) (c_t_acts := c_t_acts) (c_t_next := c_t_next) (c_t_scriptSize := c_t_scriptSize) (c_t_spot := c_t_spot) (c_t_readHigh := c_t_readHigh) (c_t_readWide := c_t_readWide) (f_p0 := v47) (n_p0 := 243) (p1 := (1 : Int)) (hn_p0 := (by decide)) q52 h53) dX9_simulate_121 gX9_simulate_X9_goByOrder rfl rfl rfl (by decide +kernel) ⟨Nat.le_of_ble_eq_true rfl, Nat.le_of_ble_eq_true rfl⟩ ⟨Nat.le_of_ble_eq_true rfl, Nat.le_of_ble_eq_true rfl⟩ (z_spl_of [0, 2, 1] rfl rfl) rfl rfl rfl rfl (Nat.le_of_ble_eq_true rfl) rfl (fun rv w9 hq => ?_)
        obtain ⟨rfl, rfl⟩ := hq
        refine z_ws [(a_t_now, zI J 243 f_t_now), (a_t, .inr (8, [.int (zi q35.2), .int (zi c_t_high), .int (zi c_t_wide), .ref a_t_now, .ref a_t_trial, .ref a_t_diary, .int (zi c_t_acts), .int (zi c_t_next), .ref a_t_kept, .ref a_t_isKept, .ref a_t_script, .int (zi c_t_scriptSize), .int (zi c_t_spot), .ref a_t_read, .int (zi c_t_readHigh), .int (zi c_t_readWide), .ref a_t_wanted, .ref a_t_level, .ref a_t_chosen, .ref a_t_best])), (a_t_trial, zI J 243 q52.2)] rfl ?_
        refine z_pop (pc' := 125) dX9_simulate_124 rfl rfl ?_
        refine z_iinc (pc' := 128) [(6, .int (zi (v46 + (1 : Int)))), (7, .int (zi (zlushr ((v45 * (6364136223846793005 : Int)) + (1442695040888963407 : Int)) (33 : Int)))), (4, .long (zl ((v45 * (6364136223846793005 : Int)) + (1442695040888963407 : Int)))), (0, .ref a_t), (3, .int (zi p1))] 4 dX9_simulate_125 rfl (by decide) rfl rfl ?_
        refine z_goto (tgt := 45) dX9_simulate_128 (by decide) ?_
        refine z_perm [(a_t, .inr (8, [.int (zi q35.2), .int (zi c_t_high), .int (zi c_t_wide), .ref a_t_now, .ref a_t_trial, .ref a_t_diary, .int (zi c_t_acts), .int (zi c_t_next), .ref a_t_kept, .ref a_t_isKept, .ref a_t_script, .int (zi c_t_scriptSize), .int (zi c_t_spot), .ref a_t_read, .int (zi c_t_readHigh), .int (zi c_t_readWide), .ref a_t_wanted, .ref a_t_level, .ref a_t_chosen, .ref a_t_best])), (a_t_now, zI J 243 f_t_now), (a_t_trial, zI J 243 q52.2)] [(0, .ref a_t), (3, .int (zi p1)), (4, .long (zl ((v45 * (6364136223846793005 : Int)) + (1442695040888963407 : Int)))), (6, .int (zi (v46 + (1 : Int))))] [1, 0, 2] [3, 4, 2, 0] rfl rfl rfl ?_
        exact ih _ _ _ hsh
      · replace hsh := zif_t q hsh
        refine z_iload (pc' := 80) 0 dX9_simulate_78 rfl rfl ?_
        refine z_iconst (pc' := 81) dX9_simulate_80 rfl ?_
        refine z_idiv (pc' := 82) dX9_simulate_81 g50 (by decide) (by decide) rfl ?_
        refine z_aload_n (pc' := 83) 2 dX9_simulate_82 rfl rfl rfl ?_
        obtain ⟨q54, h55, hsh⟩ := zbind hsh
        refine z_callV (pc' := 86) (C := RX9) (As := []) (rest := [.int (zi (zdiv (zlushr ((v45 * (6364136223846793005 : Int)) + (1442695040888963407 : Int)) (33 : Int)) (4 : Int)))]) (wr := [(a_t_now, zI J 243 f_t_now), (a_t_trial, zI J 243 v47)]) 0 (zc_X9_points l D J F (a_t := a_t) (a_t_now := a_t_now) (a_t_trial := a_t_trial) (a_t_diary := a_t_diary) (a_t_kept := a_t_kept) (a_t_isKept := a_t_isKept) (a_t_script := a_t_script) (a_t_read := a_t_read) (a_t_wanted := a_t_wanted) (a_t_level := a_t_level) (a_t_chosen := a_t_chosen) (a_t_best := a_t_best) (c_t_refusal := q35.2) (c_t_high := c_t_high) (c_t_wide := c_t_wide) (c_t_acts := c_t_acts) (c_t_next := c_t_next) (c_t_scriptSize := c_t_scriptSize) (c_t_spot := c_t_spot) (c_t_readHigh := c_t_readHigh) (c_t_readWide := c_t_readWide)  q54 h55) dX9_simulate_83 gX9_simulate_X9_points rfl rfl rfl (by decide +kernel) ⟨Nat.le_of_ble_eq_true rfl, Nat.le_of_ble_eq_true rfl⟩ ⟨Nat.le_of_ble_eq_true rfl, Nat.le_of_ble_eq_true rfl⟩ (z_spl_of [0, 1, 2] rfl rfl) rfl rfl rfl rfl (Nat.le_of_ble_eq_true rfl) rfl (fun rv w9 hq => ?_)
        obtain ⟨rfl, rfl⟩ := hq
        refine z_ws [(a_t_now, zI J 243 f_t_now), (a_t_trial, zI J 243 v47), (a_t, .inr (8, [.int (zi q35.2), .int (zi c_t_high), .int (zi c_t_wide), .ref a_t_now, .ref a_t_trial, .ref a_t_diary, .int (zi c_t_acts), .int (zi c_t_next), .ref a_t_kept, .ref a_t_isKept, .ref a_t_script, .int (zi c_t_scriptSize), .int (zi c_t_spot), .ref a_t_read, .int (zi c_t_readHigh), .int (zi c_t_readWide), .ref a_t_wanted, .ref a_t_level, .ref a_t_chosen, .ref a_t_best]))] rfl ?_
        have g56 := zkr_p hsh
        replace hsh := zkr_k hsh
        have g57 := zkr_p hsh
        replace hsh := zkr_k hsh
        have g58 := zkc_p hsh
        replace hsh := zkc_k hsh
        refine z_irem (pc' := 87) dX9_simulate_86 g56 g57 g58 rfl ?_
        refine z_istore (pc' := 89) [(8, .int (zi (zmod (zdiv (zlushr ((v45 * (6364136223846793005 : Int)) + (1442695040888963407 : Int)) (33 : Int)) (4 : Int)) q54))), (7, .int (zi (zlushr ((v45 * (6364136223846793005 : Int)) + (1442695040888963407 : Int)) (33 : Int)))), (4, .long (zl ((v45 * (6364136223846793005 : Int)) + (1442695040888963407 : Int)))), (0, .ref a_t), (3, .int (zi p1)), (6, .int (zi v46))] dX9_simulate_87 (by decide) rfl rfl ?_
        refine z_aload_n (pc' := 90) 3 dX9_simulate_89 rfl rfl rfl ?_
        refine z_getfield (pc' := 93) (C := RX9) (T := TX9) (N := 20) 2 4 dX9_simulate_90 iX9_simulate_X9 rfl rfl (by decide) mX9_simulate_f20 rfl rfl ?_
        refine z_bipush (pc' := 95) dX9_simulate_93 (by decide) rfl ?_
        refine z_iload (pc' := 97) 0 dX9_simulate_95 rfl rfl ?_
        refine z_imul (pc' := 98) dX9_simulate_97 rfl ?_
        refine z_iconst (pc' := 99) dX9_simulate_98 rfl ?_
        refine z_iadd (pc' := 100) dX9_simulate_99 rfl ?_
        refine z_iconst (pc' := 101) dX9_simulate_100 rfl ?_
        refine z_aload_n (pc' := 102) 3 dX9_simulate_101 rfl rfl rfl ?_
        refine z_getfield (pc' := 105) (C := RX9) (T := TX9) (N := 20) 2 4 dX9_simulate_102 iX9_simulate_X9 rfl rfl (by decide) mX9_simulate_f20 rfl rfl ?_
        refine z_bipush (pc' := 107) dX9_simulate_105 (by decide) rfl ?_
        refine z_iload (pc' := 109) 0 dX9_simulate_107 rfl rfl ?_
        refine z_imul (pc' := 110) dX9_simulate_109 rfl ?_
        refine z_iconst (pc' := 111) dX9_simulate_110 rfl ?_
        refine z_iadd (pc' := 112) dX9_simulate_111 rfl ?_
        have g59 := zkx_p hsh
        replace hsh := zkx_k hsh
        refine z_iaload (pc' := 113) 1 dX9_simulate_112 rfl (by decide) g59 rfl ?_
        refine z_isub (pc' := 114) dX9_simulate_113 rfl ?_
        refine z_iastore (pc' := 115) 1 [(a_t_now, zI J 243 f_t_now), (a_t_trial, zI J 243 (va_up v47 ((((15 : Int) * (zmod (zdiv (zlushr ((v45 * (6364136223846793005 : Int)) + (1442695040888963407 : Int)) (33 : Int)) (4 : Int)) q54)) + (1 : Int))).toNat ((1 : Int) - (v47 ((((15 : Int) * (zmod (zdiv (zlushr ((v45 * (6364136223846793005 : Int)) + (1442695040888963407 : Int)) (33 : Int)) (4 : Int)) q54)) + (1 : Int))).toNat)))), (a_t, .inr (8, [.int (zi q35.2), .int (zi c_t_high), .int (zi c_t_wide), .ref a_t_now, .ref a_t_trial, .ref a_t_diary, .int (zi c_t_acts), .int (zi c_t_next), .ref a_t_kept, .ref a_t_isKept, .ref a_t_script, .int (zi c_t_scriptSize), .int (zi c_t_spot), .ref a_t_read, .int (zi c_t_readHigh), .int (zi c_t_readWide), .ref a_t_wanted, .ref a_t_level, .ref a_t_chosen, .ref a_t_best]))] dX9_simulate_114 rfl (by decide) g59 rfl rfl ?_
        refine z_aload_n (pc' := 116) 3 dX9_simulate_115 rfl rfl rfl ?_
        refine z_aload_n (pc' := 117) 3 dX9_simulate_116 rfl rfl rfl ?_
        refine z_getfield (pc' := 120) (C := RX9) (T := TX9) (N := 20) 2 4 dX9_simulate_117 iX9_simulate_X9 rfl rfl (by decide) mX9_simulate_f20 rfl rfl ?_
        refine z_iconst (pc' := 121) dX9_simulate_120 rfl ?_
        obtain ⟨q60, h61, hsh⟩ := zbind hsh
        refine z_callV (pc' := 124) (C := RX9) (As := [.ref a_t_trial, .int (zi (1 : Int))]) (rest := []) (wr := [(a_t_now, zI J 243 f_t_now)]) 2 (zc_X9_goByOrder l D J F (a_t := a_t) (a_p0 := a_t_trial) (a_t_now := a_t_now) (a_t_trial := a_t_trial) (a_t_diary := a_t_diary) (a_t_kept := a_t_kept) (a_t_isKept := a_t_isKept) (a_t_script := a_t_script) (a_t_read := a_t_read) (a_t_wanted := a_t_wanted) (a_t_level := a_t_level) (a_t_chosen := a_t_chosen) (a_t_best := a_t_best) (c_t_refusal := q35.2) (c_t_high := c_t_high) (c_t_wide := c_t_wide) (c_t_acts := c_t_acts) (c_t_next := c_t_next) (c_t_scriptSize := c_t_scriptSize) (c_t_spot := c_t_spot) (c_t_readHigh := c_t_readHigh) (c_t_readWide := c_t_readWide) (f_p0 := (va_up v47 ((((15 : Int) * (zmod (zdiv (zlushr ((v45 * (6364136223846793005 : Int)) + (1442695040888963407 : Int)) (33 : Int)) (4 : Int)) q54)) + (1 : Int))).toNat ((1 : Int) - (v47 ((((15 : Int) * (zmod (zdiv (zlushr ((v45 * (6364136223846793005 : Int)) + (1442695040888963407 : Int)) (33 : Int)) (4 : Int)) q54)) + (1 : Int))).toNat)))) (n_p0 := 243) (p1 := (1 : Int)) (hn_p0 := (by decide)) q60 h61) dX9_simulate_121 gX9_simulate_X9_goByOrder rfl rfl rfl (by decide +kernel) ⟨Nat.le_of_ble_eq_true rfl, Nat.le_of_ble_eq_true rfl⟩ ⟨Nat.le_of_ble_eq_true rfl, Nat.le_of_ble_eq_true rfl⟩ (z_spl_of [2, 1, 0] rfl rfl) rfl rfl rfl rfl (Nat.le_of_ble_eq_true rfl) rfl (fun rv w9 hq => ?_)
        obtain ⟨rfl, rfl⟩ := hq
        refine z_ws [(a_t_now, zI J 243 f_t_now), (a_t, .inr (8, [.int (zi q35.2), .int (zi c_t_high), .int (zi c_t_wide), .ref a_t_now, .ref a_t_trial, .ref a_t_diary, .int (zi c_t_acts), .int (zi c_t_next), .ref a_t_kept, .ref a_t_isKept, .ref a_t_script, .int (zi c_t_scriptSize), .int (zi c_t_spot), .ref a_t_read, .int (zi c_t_readHigh), .int (zi c_t_readWide), .ref a_t_wanted, .ref a_t_level, .ref a_t_chosen, .ref a_t_best])), (a_t_trial, zI J 243 q60.2)] rfl ?_
        refine z_pop (pc' := 125) dX9_simulate_124 rfl rfl ?_
        refine z_iinc (pc' := 128) [(6, .int (zi (v46 + (1 : Int)))), (8, .int (zi (zmod (zdiv (zlushr ((v45 * (6364136223846793005 : Int)) + (1442695040888963407 : Int)) (33 : Int)) (4 : Int)) q54))), (7, .int (zi (zlushr ((v45 * (6364136223846793005 : Int)) + (1442695040888963407 : Int)) (33 : Int)))), (4, .long (zl ((v45 * (6364136223846793005 : Int)) + (1442695040888963407 : Int)))), (0, .ref a_t), (3, .int (zi p1))] 5 dX9_simulate_125 rfl (by decide) rfl rfl ?_
        refine z_goto (tgt := 45) dX9_simulate_128 (by decide) ?_
        refine z_perm [(a_t, .inr (8, [.int (zi q35.2), .int (zi c_t_high), .int (zi c_t_wide), .ref a_t_now, .ref a_t_trial, .ref a_t_diary, .int (zi c_t_acts), .int (zi c_t_next), .ref a_t_kept, .ref a_t_isKept, .ref a_t_script, .int (zi c_t_scriptSize), .int (zi c_t_spot), .ref a_t_read, .int (zi c_t_readHigh), .int (zi c_t_readWide), .ref a_t_wanted, .ref a_t_level, .ref a_t_chosen, .ref a_t_best])), (a_t_now, zI J 243 f_t_now), (a_t_trial, zI J 243 q60.2)] [(0, .ref a_t), (3, .int (zi p1)), (4, .long (zl ((v45 * (6364136223846793005 : Int)) + (1442695040888963407 : Int)))), (6, .int (zi (v46 + (1 : Int))))] [1, 0, 2] [4, 5, 3, 0] rfl rfl rfl ?_
        exact ih _ _ _ hsh
set_option maxRecDepth 100000 in
set_option maxHeartbeats 4000000 in
theorem zc_X9_simulate (l : Launch) (D : va_G) (J : Nat → ClassId) (F : Nat) (a_t : Nat) (a_t_now : Nat) (a_t_trial : Nat) (a_t_diary : Nat) (a_t_kept : Nat) (a_t_isKept : Nat) (a_t_script : Nat) (a_t_read : Nat) (a_t_wanted : Nat) (a_t_level : Nat) (a_t_chosen : Nat) (a_t_best : Nat) (c_t_refusal : Int) (c_t_high : Int) (c_t_wide : Int) (c_t_acts : Int) (c_t_next : Int) (c_t_scriptSize : Int) (c_t_spot : Int) (c_t_readHigh : Int) (c_t_readWide : Int) (f_t_now : Nat → Int) (f_t_trial : Nat → Int) (p0 : Int) (p1 : Int) (res : Int × Int × (Nat → Int)) (hsh : sh_X9_simulate F c_t_high c_t_wide f_t_now f_t_trial p0 p1 = some res) : ZM l D J yX9_simulate wsX9_simulate ({ frames := 5, cells := 0, slots := 0, locals := 126 } : Room) 0 0 [.ref a_t, .long (zl p0), .int (zi p1)] [(a_t, .inr (8, [.int (zi c_t_refusal), .int (zi c_t_high), .int (zi c_t_wide), .ref a_t_now, .ref a_t_trial, .ref a_t_diary, .int (zi c_t_acts), .int (zi c_t_next), .ref a_t_kept, .ref a_t_isKept, .ref a_t_script, .int (zi c_t_scriptSize), .int (zi c_t_spot), .ref a_t_read, .int (zi c_t_readHigh), .int (zi c_t_readWide), .ref a_t_wanted, .ref a_t_level, .ref a_t_chosen, .ref a_t_best])), (a_t_now, zI J 243 f_t_now), (a_t_trial, zI J 243 f_t_trial)] (fun rv w9 => rv = some (.int (zi res.1)) ∧ w9 = [(a_t, .inr (8, [.int (zi res.2.1), .int (zi c_t_high), .int (zi c_t_wide), .ref a_t_now, .ref a_t_trial, .ref a_t_diary, .int (zi c_t_acts), .int (zi c_t_next), .ref a_t_kept, .ref a_t_isKept, .ref a_t_script, .int (zi c_t_scriptSize), .int (zi c_t_spot), .ref a_t_read, .int (zi c_t_readHigh), .int (zi c_t_readWide), .ref a_t_wanted, .ref a_t_level, .ref a_t_chosen, .ref a_t_best])), (a_t_now, zI J 243 f_t_now), (a_t_trial, zI J 243 res.2.2)]) := by
  refine z_ofZ (cc := cX9_simulate) (maxL := 9) (ret := (some .int)) 0 0 (by decide) rfl (Nat.le_of_ble_eq_true rfl) [(0, .ref a_t), (1, .long (zl p0)), (3, .int (zi p1))] rfl ?_
  intro p e s m args below meth c A
  unfold sh_X9_simulate at hsh
  refine z_aload_n (pc' := 1) 0 dX9_simulate_0 rfl rfl rfl ?_
  refine z_iload_n (pc' := 2) 2 dX9_simulate_1 rfl rfl rfl ?_
  have g1 := zkr_p hsh
  replace hsh := zkr_k hsh
  refine z_i2l (pc' := 3) dX9_simulate_2 g1 rfl ?_
  refine z_lconst (pc' := 4) 1 dX9_simulate_3 (by decide) rfl ?_
  refine z_ldc2 (pc' := 7) (100 : Int) dX9_simulate_4 mX9_simulate_k188 (by decide) rfl ?_
  obtain ⟨q2, h3, hsh⟩ := zbind hsh
  refine z_callS (pc' := 10) (As := [.long (zl p1), .long (zl (1 : Int)), .long (zl (100 : Int))]) (rest := [.ref a_t]) (wr := [(a_t, .inr (8, [.int (zi c_t_refusal), .int (zi c_t_high), .int (zi c_t_wide), .ref a_t_now, .ref a_t_trial, .ref a_t_diary, .int (zi c_t_acts), .int (zi c_t_next), .ref a_t_kept, .ref a_t_isKept, .ref a_t_script, .int (zi c_t_scriptSize), .int (zi c_t_spot), .ref a_t_read, .int (zi c_t_readHigh), .int (zi c_t_readWide), .ref a_t_wanted, .ref a_t_level, .ref a_t_chosen, .ref a_t_best])), (a_t_now, zI J 243 f_t_now), (a_t_trial, zI J 243 f_t_trial)]) 3 (zc_X9_in l D J F (p0 := p1) (p1 := (1 : Int)) (p2 := (100 : Int))  q2 h3) dX9_simulate_7 gX9_simulate_X9_in rfl rfl rfl (by decide +kernel) ⟨Nat.le_of_ble_eq_true rfl, Nat.le_of_ble_eq_true rfl⟩ ⟨Nat.le_of_ble_eq_true rfl, Nat.le_of_ble_eq_true rfl⟩ (z_spl_of [0, 1, 2] rfl rfl) rfl rfl (Nat.le_of_ble_eq_true rfl) rfl (fun rv w9 hq => ?_)
  obtain ⟨rfl, rfl⟩ := hq
  refine z_ws [(a_t, .inr (8, [.int (zi c_t_refusal), .int (zi c_t_high), .int (zi c_t_wide), .ref a_t_now, .ref a_t_trial, .ref a_t_diary, .int (zi c_t_acts), .int (zi c_t_next), .ref a_t_kept, .ref a_t_isKept, .ref a_t_script, .int (zi c_t_scriptSize), .int (zi c_t_spot), .ref a_t_read, .int (zi c_t_readHigh), .int (zi c_t_readWide), .ref a_t_wanted, .ref a_t_level, .ref a_t_chosen, .ref a_t_best])), (a_t_now, zI J 243 f_t_now), (a_t_trial, zI J 243 f_t_trial)] rfl ?_
  have g4 := zkr_p hsh
  replace hsh := zkr_k hsh
  refine z_if_eq (pc' := 13) (tgt := 17) dX9_simulate_10 (by decide) g4 rfl (fun q => ?_) (fun q => ?_)
  · replace hsh := zif_t q hsh
    refine z_iconst (pc' := 18) dX9_simulate_17 rfl ?_
    obtain ⟨q5, h6, hsh⟩ := zbind hsh
    refine z_callV (pc' := 21) (C := RX9) (As := [.int (zi (1 : Int))]) (rest := []) (wr := [(a_t_now, zI J 243 f_t_now), (a_t_trial, zI J 243 f_t_trial)]) 1 (zc_X9_refused l D J F (a_t := a_t) (a_t_now := a_t_now) (a_t_trial := a_t_trial) (a_t_diary := a_t_diary) (a_t_kept := a_t_kept) (a_t_isKept := a_t_isKept) (a_t_script := a_t_script) (a_t_read := a_t_read) (a_t_wanted := a_t_wanted) (a_t_level := a_t_level) (a_t_chosen := a_t_chosen) (a_t_best := a_t_best) (c_t_refusal := c_t_refusal) (c_t_high := c_t_high) (c_t_wide := c_t_wide) (c_t_acts := c_t_acts) (c_t_next := c_t_next) (c_t_scriptSize := c_t_scriptSize) (c_t_spot := c_t_spot) (c_t_readHigh := c_t_readHigh) (c_t_readWide := c_t_readWide) (p0 := (1 : Int))  q5 h6) dX9_simulate_18 gX9_simulate_X9_refused rfl rfl rfl (by decide +kernel) ⟨Nat.le_of_ble_eq_true rfl, Nat.le_of_ble_eq_true rfl⟩ ⟨Nat.le_of_ble_eq_true rfl, Nat.le_of_ble_eq_true rfl⟩ (z_spl_of [0, 1, 2] rfl rfl) rfl rfl rfl rfl (Nat.le_of_ble_eq_true rfl) rfl (fun rv w9 hq => ?_)
    obtain ⟨rfl, rfl⟩ := hq
    refine z_ws [(a_t_now, zI J 243 f_t_now), (a_t_trial, zI J 243 f_t_trial), (a_t, .inr (8, [.int (zi q5.2), .int (zi c_t_high), .int (zi c_t_wide), .ref a_t_now, .ref a_t_trial, .ref a_t_diary, .int (zi c_t_acts), .int (zi c_t_next), .ref a_t_kept, .ref a_t_isKept, .ref a_t_script, .int (zi c_t_scriptSize), .int (zi c_t_spot), .ref a_t_read, .int (zi c_t_readHigh), .int (zi c_t_readWide), .ref a_t_wanted, .ref a_t_level, .ref a_t_chosen, .ref a_t_best]))] rfl ?_
    have g7 := zkr_p hsh
    replace hsh := zkr_k hsh
    refine z_if_eq (pc' := 24) (tgt := 26) dX9_simulate_21 (by decide) g7 rfl (fun q => ?_) (fun q => ?_)
    · replace hsh := zif_t q hsh
      refine z_aload_n (pc' := 27) 0 dX9_simulate_26 rfl rfl rfl ?_
      refine z_getfield (pc' := 30) (C := RX9) (T := TX9) (N := 20) 2 3 dX9_simulate_27 iX9_simulate_X9 rfl rfl (by decide) mX9_simulate_f16 rfl rfl ?_
      refine z_iconst (pc' := 31) dX9_simulate_30 rfl ?_
      refine z_aload_n (pc' := 32) 0 dX9_simulate_31 rfl rfl rfl ?_
      refine z_getfield (pc' := 35) (C := RX9) (T := TX9) (N := 20) 2 4 dX9_simulate_32 iX9_simulate_X9 rfl rfl (by decide) mX9_simulate_f20 rfl rfl ?_
      refine z_iconst (pc' := 36) dX9_simulate_35 rfl ?_
      obtain ⟨q8, h9, hsh⟩ := zbind hsh
      refine z_callS (pc' := 39) (As := [.ref a_t_now, .int (zi (0 : Int)), .ref a_t_trial, .int (zi (0 : Int))]) (rest := []) (wr := [(a_t, .inr (8, [.int (zi q5.2), .int (zi c_t_high), .int (zi c_t_wide), .ref a_t_now, .ref a_t_trial, .ref a_t_diary, .int (zi c_t_acts), .int (zi c_t_next), .ref a_t_kept, .ref a_t_isKept, .ref a_t_script, .int (zi c_t_scriptSize), .int (zi c_t_spot), .ref a_t_read, .int (zi c_t_readHigh), .int (zi c_t_readWide), .ref a_t_wanted, .ref a_t_level, .ref a_t_chosen, .ref a_t_best]))]) 4 (zc_X9_copy l D J F (a_p0 := a_t_now) (a_p2 := a_t_trial) (f_p0 := f_t_now) (f_p2 := f_t_trial) (n_p0 := 243) (n_p2 := 243) (p1 := (0 : Int)) (p3 := (0 : Int)) (hn_p0 := (by decide)) (hn_p2 := (by decide)) q8 h9) dX9_simulate_36 gX9_simulate_X9_copy rfl rfl rfl (by decide +kernel) ⟨Nat.le_of_ble_eq_true rfl, Nat.le_of_ble_eq_true rfl⟩ ⟨Nat.le_of_ble_eq_true rfl, Nat.le_of_ble_eq_true rfl⟩ (z_spl_of [0, 1, 2] rfl rfl) rfl rfl (Nat.le_of_ble_eq_true rfl) rfl (fun rv w9 hq => ?_)
      obtain ⟨rfl, rfl⟩ := hq
      refine z_ws [(a_t, .inr (8, [.int (zi q5.2), .int (zi c_t_high), .int (zi c_t_wide), .ref a_t_now, .ref a_t_trial, .ref a_t_diary, .int (zi c_t_acts), .int (zi c_t_next), .ref a_t_kept, .ref a_t_isKept, .ref a_t_script, .int (zi c_t_scriptSize), .int (zi c_t_spot), .ref a_t_read, .int (zi c_t_readHigh), .int (zi c_t_readWide), .ref a_t_wanted, .ref a_t_level, .ref a_t_chosen, .ref a_t_best])), (a_t_now, zI J 243 f_t_now), (a_t_trial, zI J 243 q8)] rfl ?_
      refine z_lload_n (pc' := 40) 1 dX9_simulate_39 rfl rfl rfl ?_
      refine z_lstore (pc' := 42) [(4, .long (zl p0)), (0, .ref a_t), (1, .long (zl p0)), (3, .int (zi p1))] dX9_simulate_40 (by decide) rfl rfl ?_
      refine z_iconst (pc' := 43) dX9_simulate_42 rfl ?_
      refine z_istore (pc' := 45) [(6, .int (zi (0 : Int))), (4, .long (zl p0)), (0, .ref a_t), (1, .long (zl p0)), (3, .int (zi p1))] dX9_simulate_43 (by decide) rfl rfl ?_
      refine z_perm [(a_t, .inr (8, [.int (zi q5.2), .int (zi c_t_high), .int (zi c_t_wide), .ref a_t_now, .ref a_t_trial, .ref a_t_diary, .int (zi c_t_acts), .int (zi c_t_next), .ref a_t_kept, .ref a_t_isKept, .ref a_t_script, .int (zi c_t_scriptSize), .int (zi c_t_spot), .ref a_t_read, .int (zi c_t_readHigh), .int (zi c_t_readWide), .ref a_t_wanted, .ref a_t_level, .ref a_t_chosen, .ref a_t_best])), (a_t_now, zI J 243 f_t_now), (a_t_trial, zI J 243 q8)] [(0, .ref a_t), (3, .int (zi p1)), (4, .long (zl p0)), (6, .int (zi (0 : Int)))] [0, 1, 2] [2, 4, 1, 0] rfl rfl rfl ?_
      refine zl_X9_simulate_L45 (F := F) (hk := fun v32 v33 v34 hsh => ?_) _ _ _ _ hsh
      refine z_aload_n (pc' := 132) 0 dX9_simulate_131 rfl rfl rfl ?_
      refine z_getfield (pc' := 135) (C := RX9) (T := TX9) (N := 20) 0 4 dX9_simulate_132 iX9_simulate_X9 rfl rfl (by decide) mX9_simulate_f20 rfl rfl ?_
      refine z_sipush (pc' := 138) dX9_simulate_135 (by decide) rfl ?_
      refine z_iaload (pc' := 139) 2 dX9_simulate_138 rfl (by decide) (by decide) rfl ?_
      refine z_aload_n (pc' := 140) 0 dX9_simulate_139 rfl rfl rfl ?_
      refine z_getfield (pc' := 143) (C := RX9) (T := TX9) (N := 20) 0 3 dX9_simulate_140 iX9_simulate_X9 rfl rfl (by decide) mX9_simulate_f16 rfl rfl ?_
      refine z_sipush (pc' := 146) dX9_simulate_143 (by decide) rfl ?_
      refine z_iaload (pc' := 147) 1 dX9_simulate_146 rfl (by decide) (by decide) rfl ?_
      refine z_isub (pc' := 148) dX9_simulate_147 rfl ?_
      cases hsh
      exact z_iret rfl dX9_simulate_148 ⟨rfl, rfl⟩
    · replace hsh := zif_f q hsh
      refine z_iconst (pc' := 25) dX9_simulate_24 rfl ?_
      refine z_perm [(a_t, .inr (8, [.int (zi q5.2), .int (zi c_t_high), .int (zi c_t_wide), .ref a_t_now, .ref a_t_trial, .ref a_t_diary, .int (zi c_t_acts), .int (zi c_t_next), .ref a_t_kept, .ref a_t_isKept, .ref a_t_script, .int (zi c_t_scriptSize), .int (zi c_t_spot), .ref a_t_read, .int (zi c_t_readHigh), .int (zi c_t_readWide), .ref a_t_wanted, .ref a_t_level, .ref a_t_chosen, .ref a_t_best])), (a_t_now, zI J 243 f_t_now), (a_t_trial, zI J 243 f_t_trial)] [(0, .ref a_t), (1, .long (zl p0)), (3, .int (zi p1))] [2, 0, 1] [0, 1, 2] rfl rfl rfl ?_
      cases hsh
      exact z_iret rfl dX9_simulate_25 ⟨rfl, rfl⟩
  · replace hsh := zif_f q hsh
    refine z_iconst (pc' := 14) dX9_simulate_13 rfl ?_
    refine z_goto (tgt := 18) dX9_simulate_14 (by decide) ?_
    obtain ⟨q35, h36, hsh⟩ := zbind hsh
    refine z_callV (pc' := 21) (C := RX9) (As := [.int (zi (0 : Int))]) (rest := []) (wr := [(a_t_now, zI J 243 f_t_now), (a_t_trial, zI J 243 f_t_trial)]) 1 (zc_X9_refused l D J F (a_t := a_t) (a_t_now := a_t_now) (a_t_trial := a_t_trial) (a_t_diary := a_t_diary) (a_t_kept := a_t_kept) (a_t_isKept := a_t_isKept) (a_t_script := a_t_script) (a_t_read := a_t_read) (a_t_wanted := a_t_wanted) (a_t_level := a_t_level) (a_t_chosen := a_t_chosen) (a_t_best := a_t_best) (c_t_refusal := c_t_refusal) (c_t_high := c_t_high) (c_t_wide := c_t_wide) (c_t_acts := c_t_acts) (c_t_next := c_t_next) (c_t_scriptSize := c_t_scriptSize) (c_t_spot := c_t_spot) (c_t_readHigh := c_t_readHigh) (c_t_readWide := c_t_readWide) (p0 := (0 : Int))  q35 h36) dX9_simulate_18 gX9_simulate_X9_refused rfl rfl rfl (by decide +kernel) ⟨Nat.le_of_ble_eq_true rfl, Nat.le_of_ble_eq_true rfl⟩ ⟨Nat.le_of_ble_eq_true rfl, Nat.le_of_ble_eq_true rfl⟩ (z_spl_of [0, 1, 2] rfl rfl) rfl rfl rfl rfl (Nat.le_of_ble_eq_true rfl) rfl (fun rv w9 hq => ?_)
    obtain ⟨rfl, rfl⟩ := hq
    refine z_ws [(a_t_now, zI J 243 f_t_now), (a_t_trial, zI J 243 f_t_trial), (a_t, .inr (8, [.int (zi q35.2), .int (zi c_t_high), .int (zi c_t_wide), .ref a_t_now, .ref a_t_trial, .ref a_t_diary, .int (zi c_t_acts), .int (zi c_t_next), .ref a_t_kept, .ref a_t_isKept, .ref a_t_script, .int (zi c_t_scriptSize), .int (zi c_t_spot), .ref a_t_read, .int (zi c_t_readHigh), .int (zi c_t_readWide), .ref a_t_wanted, .ref a_t_level, .ref a_t_chosen, .ref a_t_best]))] rfl ?_
    have g37 := zkr_p hsh
    replace hsh := zkr_k hsh
    refine z_if_eq (pc' := 24) (tgt := 26) dX9_simulate_21 (by decide) g37 rfl (fun q => ?_) (fun q => ?_)
    · replace hsh := zif_t q hsh
      refine z_aload_n (pc' := 27) 0 dX9_simulate_26 rfl rfl rfl ?_
      refine z_getfield (pc' := 30) (C := RX9) (T := TX9) (N := 20) 2 3 dX9_simulate_27 iX9_simulate_X9 rfl rfl (by decide) mX9_simulate_f16 rfl rfl ?_
      refine z_iconst (pc' := 31) dX9_simulate_30 rfl ?_
      refine z_aload_n (pc' := 32) 0 dX9_simulate_31 rfl rfl rfl ?_
      refine z_getfield (pc' := 35) (C := RX9) (T := TX9) (N := 20) 2 4 dX9_simulate_32 iX9_simulate_X9 rfl rfl (by decide) mX9_simulate_f20 rfl rfl ?_
      refine z_iconst (pc' := 36) dX9_simulate_35 rfl ?_
      obtain ⟨q38, h39, hsh⟩ := zbind hsh
      refine z_callS (pc' := 39) (As := [.ref a_t_now, .int (zi (0 : Int)), .ref a_t_trial, .int (zi (0 : Int))]) (rest := []) (wr := [(a_t, .inr (8, [.int (zi q35.2), .int (zi c_t_high), .int (zi c_t_wide), .ref a_t_now, .ref a_t_trial, .ref a_t_diary, .int (zi c_t_acts), .int (zi c_t_next), .ref a_t_kept, .ref a_t_isKept, .ref a_t_script, .int (zi c_t_scriptSize), .int (zi c_t_spot), .ref a_t_read, .int (zi c_t_readHigh), .int (zi c_t_readWide), .ref a_t_wanted, .ref a_t_level, .ref a_t_chosen, .ref a_t_best]))]) 4 (zc_X9_copy l D J F (a_p0 := a_t_now) (a_p2 := a_t_trial) (f_p0 := f_t_now) (f_p2 := f_t_trial) (n_p0 := 243) (n_p2 := 243) (p1 := (0 : Int)) (p3 := (0 : Int)) (hn_p0 := (by decide)) (hn_p2 := (by decide)) q38 h39) dX9_simulate_36 gX9_simulate_X9_copy rfl rfl rfl (by decide +kernel) ⟨Nat.le_of_ble_eq_true rfl, Nat.le_of_ble_eq_true rfl⟩ ⟨Nat.le_of_ble_eq_true rfl, Nat.le_of_ble_eq_true rfl⟩ (z_spl_of [0, 1, 2] rfl rfl) rfl rfl (Nat.le_of_ble_eq_true rfl) rfl (fun rv w9 hq => ?_)
      obtain ⟨rfl, rfl⟩ := hq
      refine z_ws [(a_t, .inr (8, [.int (zi q35.2), .int (zi c_t_high), .int (zi c_t_wide), .ref a_t_now, .ref a_t_trial, .ref a_t_diary, .int (zi c_t_acts), .int (zi c_t_next), .ref a_t_kept, .ref a_t_isKept, .ref a_t_script, .int (zi c_t_scriptSize), .int (zi c_t_spot), .ref a_t_read, .int (zi c_t_readHigh), .int (zi c_t_readWide), .ref a_t_wanted, .ref a_t_level, .ref a_t_chosen, .ref a_t_best])), (a_t_now, zI J 243 f_t_now), (a_t_trial, zI J 243 q38)] rfl ?_
      refine z_lload_n (pc' := 40) 1 dX9_simulate_39 rfl rfl rfl ?_
      refine z_lstore (pc' := 42) [(4, .long (zl p0)), (0, .ref a_t), (1, .long (zl p0)), (3, .int (zi p1))] dX9_simulate_40 (by decide) rfl rfl ?_
      refine z_iconst (pc' := 43) dX9_simulate_42 rfl ?_
      refine z_istore (pc' := 45) [(6, .int (zi (0 : Int))), (4, .long (zl p0)), (0, .ref a_t), (1, .long (zl p0)), (3, .int (zi p1))] dX9_simulate_43 (by decide) rfl rfl ?_
      refine z_perm [(a_t, .inr (8, [.int (zi q35.2), .int (zi c_t_high), .int (zi c_t_wide), .ref a_t_now, .ref a_t_trial, .ref a_t_diary, .int (zi c_t_acts), .int (zi c_t_next), .ref a_t_kept, .ref a_t_isKept, .ref a_t_script, .int (zi c_t_scriptSize), .int (zi c_t_spot), .ref a_t_read, .int (zi c_t_readHigh), .int (zi c_t_readWide), .ref a_t_wanted, .ref a_t_level, .ref a_t_chosen, .ref a_t_best])), (a_t_now, zI J 243 f_t_now), (a_t_trial, zI J 243 q38)] [(0, .ref a_t), (3, .int (zi p1)), (4, .long (zl p0)), (6, .int (zi (0 : Int)))] [0, 1, 2] [2, 4, 1, 0] rfl rfl rfl ?_
      refine zl_X9_simulate_L45_2 (F := F) (hk := fun v62 v63 v64 hsh => ?_) _ _ _ _ hsh
      refine z_aload_n (pc' := 132) 0 dX9_simulate_131 rfl rfl rfl ?_
      refine z_getfield (pc' := 135) (C := RX9) (T := TX9) (N := 20) 0 4 dX9_simulate_132 iX9_simulate_X9 rfl rfl (by decide) mX9_simulate_f20 rfl rfl ?_
      refine z_sipush (pc' := 138) dX9_simulate_135 (by decide) rfl ?_
      refine z_iaload (pc' := 139) 2 dX9_simulate_138 rfl (by decide) (by decide) rfl ?_
      refine z_aload_n (pc' := 140) 0 dX9_simulate_139 rfl rfl rfl ?_
      refine z_getfield (pc' := 143) (C := RX9) (T := TX9) (N := 20) 0 3 dX9_simulate_140 iX9_simulate_X9 rfl rfl (by decide) mX9_simulate_f16 rfl rfl ?_
      refine z_sipush (pc' := 146) dX9_simulate_143 (by decide) rfl ?_
      refine z_iaload (pc' := 147) 1 dX9_simulate_146 rfl (by decide) (by decide) rfl ?_
      refine z_isub (pc' := 148) dX9_simulate_147 rfl ?_
      cases hsh
      exact z_iret rfl dX9_simulate_148 ⟨rfl, rfl⟩
    · replace hsh := zif_f q hsh
      refine z_iconst (pc' := 25) dX9_simulate_24 rfl ?_
      refine z_perm [(a_t, .inr (8, [.int (zi q35.2), .int (zi c_t_high), .int (zi c_t_wide), .ref a_t_now, .ref a_t_trial, .ref a_t_diary, .int (zi c_t_acts), .int (zi c_t_next), .ref a_t_kept, .ref a_t_isKept, .ref a_t_script, .int (zi c_t_scriptSize), .int (zi c_t_spot), .ref a_t_read, .int (zi c_t_readHigh), .int (zi c_t_readWide), .ref a_t_wanted, .ref a_t_level, .ref a_t_chosen, .ref a_t_best])), (a_t_now, zI J 243 f_t_now), (a_t_trial, zI J 243 f_t_trial)] [(0, .ref a_t), (1, .long (zl p0)), (3, .int (zi p1))] [2, 0, 1] [0, 1, 2] rfl rfl rfl ?_
      cases hsh
      exact z_iret rfl dX9_simulate_25 ⟨rfl, rfl⟩
def sh_X9_save (F : Nat) (f_t_now : Nat → Int) (f_t_kept : Nat → Int) (f_t_isKept : Nat → Int) (p0 : Int) : Option (Int × Int × (Nat → Int) × (Nat → Int)) := zkr p0 ((sh_X9_in F p0 (0 : Int) (1 : Int)).bind (fun (q2 : Int) => zkr q2 (if q2 = (0 : Int) then (sh_X9_refused F (1 : Int)).bind (fun (q5 : Int × Int) => zkr q5.1 (if q5.1 = (0 : Int) then zkx p0 2 ((sh_X9_copy F f_t_now f_t_kept 243 486 (0 : Int) ((243 : Int) * p0)).bind (fun (q9 : (Nat → Int)) => some ((f_t_now ((241 : Int)).toNat), q5.2, q9, (va_up f_t_isKept (p0).toNat (1 : Int))))) else some ((0 : Int), q5.2, f_t_kept, f_t_isKept))) else (sh_X9_refused F (0 : Int)).bind (fun (q11 : Int × Int) => zkr q11.1 (if q11.1 = (0 : Int) then zkx p0 2 ((sh_X9_copy F f_t_now f_t_kept 243 486 (0 : Int) ((243 : Int) * p0)).bind (fun (q15 : (Nat → Int)) => some ((f_t_now ((241 : Int)).toNat), q11.2, q15, (va_up f_t_isKept (p0).toNat (1 : Int))))) else some ((0 : Int), q11.2, f_t_kept, f_t_isKept))))))
theorem mX9_save_f29 : Cond.fieldLink RX9 29 (TX9 9).1 (TX9 9).2.1 (TX9 9).2.2.1 ∈ wsX9_save := List.mem_of_getElem? (i := 1) rfl
theorem iX9_save_X9 : ∀ w ∈ wsX90, w ∈ wsX9_save := fun _ h => (List.mem_cons_of_mem _ (List.mem_append_right _ h))
theorem mX9_save_f16 : Cond.fieldLink RX9 16 (TX9 3).1 (TX9 3).2.1 (TX9 3).2.2.1 ∈ wsX9_save := List.mem_of_getElem? (i := 2) rfl
theorem mX9_save_f26 : Cond.fieldLink RX9 26 (TX9 8).1 (TX9 8).2.1 (TX9 8).2.2.1 ∈ wsX9_save := List.mem_of_getElem? (i := 3) rfl
set_option maxRecDepth 100000 in
set_option maxHeartbeats 4000000 in
theorem zc_X9_save (l : Launch) (D : va_G) (J : Nat → ClassId) (F : Nat) (a_t : Nat) (a_t_now : Nat) (a_t_trial : Nat) (a_t_diary : Nat) (a_t_kept : Nat) (a_t_isKept : Nat) (a_t_script : Nat) (a_t_read : Nat) (a_t_wanted : Nat) (a_t_level : Nat) (a_t_chosen : Nat) (a_t_best : Nat) (c_t_refusal : Int) (c_t_high : Int) (c_t_wide : Int) (c_t_acts : Int) (c_t_next : Int) (c_t_scriptSize : Int) (c_t_spot : Int) (c_t_readHigh : Int) (c_t_readWide : Int) (f_t_now : Nat → Int) (f_t_kept : Nat → Int) (f_t_isKept : Nat → Int) (p0 : Int) (res : Int × Int × (Nat → Int) × (Nat → Int)) (hsh : sh_X9_save F f_t_now f_t_kept f_t_isKept p0 = some res) : ZM l D J yX9_save wsX9_save ({ frames := 1, cells := 0, slots := 0, locals := 25 } : Room) 0 0 [.ref a_t, .int (zi p0)] [(a_t, .inr (8, [.int (zi c_t_refusal), .int (zi c_t_high), .int (zi c_t_wide), .ref a_t_now, .ref a_t_trial, .ref a_t_diary, .int (zi c_t_acts), .int (zi c_t_next), .ref a_t_kept, .ref a_t_isKept, .ref a_t_script, .int (zi c_t_scriptSize), .int (zi c_t_spot), .ref a_t_read, .int (zi c_t_readHigh), .int (zi c_t_readWide), .ref a_t_wanted, .ref a_t_level, .ref a_t_chosen, .ref a_t_best])), (a_t_now, zI J 243 f_t_now), (a_t_kept, zI J 486 f_t_kept), (a_t_isKept, zB J 2 f_t_isKept)] (fun rv w9 => rv = some (.int (zi res.1)) ∧ w9 = [(a_t, .inr (8, [.int (zi res.2.1), .int (zi c_t_high), .int (zi c_t_wide), .ref a_t_now, .ref a_t_trial, .ref a_t_diary, .int (zi c_t_acts), .int (zi c_t_next), .ref a_t_kept, .ref a_t_isKept, .ref a_t_script, .int (zi c_t_scriptSize), .int (zi c_t_spot), .ref a_t_read, .int (zi c_t_readHigh), .int (zi c_t_readWide), .ref a_t_wanted, .ref a_t_level, .ref a_t_chosen, .ref a_t_best])), (a_t_now, zI J 243 f_t_now), (a_t_kept, zI J 486 res.2.2.1), (a_t_isKept, zB J 2 res.2.2.2)]) := by
  refine z_ofZ (cc := cX9_save) (maxL := 2) (ret := (some .int)) 0 0 (by decide) rfl (Nat.le_of_ble_eq_true rfl) [(0, .ref a_t), (1, .int (zi p0))] rfl ?_
  intro p e s m args below meth c A
  unfold sh_X9_save at hsh
  refine z_aload_n (pc' := 1) 0 dX9_save_0 rfl rfl rfl ?_
  refine z_iload_n (pc' := 2) 1 dX9_save_1 rfl rfl rfl ?_
  have g1 := zkr_p hsh
  replace hsh := zkr_k hsh
  refine z_i2l (pc' := 3) dX9_save_2 g1 rfl ?_
  refine z_lconst (pc' := 4) 0 dX9_save_3 (by decide) rfl ?_
  refine z_lconst (pc' := 5) 1 dX9_save_4 (by decide) rfl ?_
  obtain ⟨q2, h3, hsh⟩ := zbind hsh
  refine z_callS (pc' := 8) (As := [.long (zl p0), .long (zl (0 : Int)), .long (zl (1 : Int))]) (rest := [.ref a_t]) (wr := [(a_t, .inr (8, [.int (zi c_t_refusal), .int (zi c_t_high), .int (zi c_t_wide), .ref a_t_now, .ref a_t_trial, .ref a_t_diary, .int (zi c_t_acts), .int (zi c_t_next), .ref a_t_kept, .ref a_t_isKept, .ref a_t_script, .int (zi c_t_scriptSize), .int (zi c_t_spot), .ref a_t_read, .int (zi c_t_readHigh), .int (zi c_t_readWide), .ref a_t_wanted, .ref a_t_level, .ref a_t_chosen, .ref a_t_best])), (a_t_now, zI J 243 f_t_now), (a_t_kept, zI J 486 f_t_kept), (a_t_isKept, zB J 2 f_t_isKept)]) 3 (zc_X9_in l D J F (p0 := p0) (p1 := (0 : Int)) (p2 := (1 : Int))  q2 h3) dX9_save_5 gX9_save_X9_in rfl rfl rfl (by decide +kernel) ⟨Nat.le_of_ble_eq_true rfl, Nat.le_of_ble_eq_true rfl⟩ ⟨Nat.le_of_ble_eq_true rfl, Nat.le_of_ble_eq_true rfl⟩ (z_spl_of [0, 1, 2, 3] rfl rfl) rfl rfl (Nat.le_of_ble_eq_true rfl) rfl (fun rv w9 hq => ?_)
  obtain ⟨rfl, rfl⟩ := hq
  refine z_ws [(a_t, .inr (8, [.int (zi c_t_refusal), .int (zi c_t_high), .int (zi c_t_wide), .ref a_t_now, .ref a_t_trial, .ref a_t_diary, .int (zi c_t_acts), .int (zi c_t_next), .ref a_t_kept, .ref a_t_isKept, .ref a_t_script, .int (zi c_t_scriptSize), .int (zi c_t_spot), .ref a_t_read, .int (zi c_t_readHigh), .int (zi c_t_readWide), .ref a_t_wanted, .ref a_t_level, .ref a_t_chosen, .ref a_t_best])), (a_t_now, zI J 243 f_t_now), (a_t_kept, zI J 486 f_t_kept), (a_t_isKept, zB J 2 f_t_isKept)] rfl ?_
  have g4 := zkr_p hsh
  replace hsh := zkr_k hsh
  refine z_if_eq (pc' := 11) (tgt := 15) dX9_save_8 (by decide) g4 rfl (fun q => ?_) (fun q => ?_)
  · replace hsh := zif_t q hsh
    refine z_iconst (pc' := 16) dX9_save_15 rfl ?_
    obtain ⟨q5, h6, hsh⟩ := zbind hsh
    refine z_callV (pc' := 19) (C := RX9) (As := [.int (zi (1 : Int))]) (rest := []) (wr := [(a_t_now, zI J 243 f_t_now), (a_t_kept, zI J 486 f_t_kept), (a_t_isKept, zB J 2 f_t_isKept)]) 1 (zc_X9_refused l D J F (a_t := a_t) (a_t_now := a_t_now) (a_t_trial := a_t_trial) (a_t_diary := a_t_diary) (a_t_kept := a_t_kept) (a_t_isKept := a_t_isKept) (a_t_script := a_t_script) (a_t_read := a_t_read) (a_t_wanted := a_t_wanted) (a_t_level := a_t_level) (a_t_chosen := a_t_chosen) (a_t_best := a_t_best) (c_t_refusal := c_t_refusal) (c_t_high := c_t_high) (c_t_wide := c_t_wide) (c_t_acts := c_t_acts) (c_t_next := c_t_next) (c_t_scriptSize := c_t_scriptSize) (c_t_spot := c_t_spot) (c_t_readHigh := c_t_readHigh) (c_t_readWide := c_t_readWide) (p0 := (1 : Int))  q5 h6) dX9_save_16 gX9_save_X9_refused rfl rfl rfl (by decide +kernel) ⟨Nat.le_of_ble_eq_true rfl, Nat.le_of_ble_eq_true rfl⟩ ⟨Nat.le_of_ble_eq_true rfl, Nat.le_of_ble_eq_true rfl⟩ (z_spl_of [0, 1, 2, 3] rfl rfl) rfl rfl rfl rfl (Nat.le_of_ble_eq_true rfl) rfl (fun rv w9 hq => ?_)
    obtain ⟨rfl, rfl⟩ := hq
    refine z_ws [(a_t_now, zI J 243 f_t_now), (a_t_kept, zI J 486 f_t_kept), (a_t_isKept, zB J 2 f_t_isKept), (a_t, .inr (8, [.int (zi q5.2), .int (zi c_t_high), .int (zi c_t_wide), .ref a_t_now, .ref a_t_trial, .ref a_t_diary, .int (zi c_t_acts), .int (zi c_t_next), .ref a_t_kept, .ref a_t_isKept, .ref a_t_script, .int (zi c_t_scriptSize), .int (zi c_t_spot), .ref a_t_read, .int (zi c_t_readHigh), .int (zi c_t_readWide), .ref a_t_wanted, .ref a_t_level, .ref a_t_chosen, .ref a_t_best]))] rfl ?_
    have g7 := zkr_p hsh
    replace hsh := zkr_k hsh
    refine z_if_eq (pc' := 22) (tgt := 24) dX9_save_19 (by decide) g7 rfl (fun q => ?_) (fun q => ?_)
    · replace hsh := zif_t q hsh
      refine z_aload_n (pc' := 25) 0 dX9_save_24 rfl rfl rfl ?_
      refine z_getfield (pc' := 28) (C := RX9) (T := TX9) (N := 20) 3 9 dX9_save_25 iX9_save_X9 rfl rfl (by decide) mX9_save_f29 rfl rfl ?_
      refine z_iload_n (pc' := 29) 1 dX9_save_28 rfl rfl rfl ?_
      refine z_iconst (pc' := 30) dX9_save_29 rfl ?_
      have g8 := zkx_p hsh
      replace hsh := zkx_k hsh
      refine z_bastore (pc' := 31) 2 [(a_t_now, zI J 243 f_t_now), (a_t_kept, zI J 486 f_t_kept), (a_t_isKept, zB J 2 (va_up f_t_isKept (p0).toNat (1 : Int))), (a_t, .inr (8, [.int (zi q5.2), .int (zi c_t_high), .int (zi c_t_wide), .ref a_t_now, .ref a_t_trial, .ref a_t_diary, .int (zi c_t_acts), .int (zi c_t_next), .ref a_t_kept, .ref a_t_isKept, .ref a_t_script, .int (zi c_t_scriptSize), .int (zi c_t_spot), .ref a_t_read, .int (zi c_t_readHigh), .int (zi c_t_readWide), .ref a_t_wanted, .ref a_t_level, .ref a_t_chosen, .ref a_t_best]))] dX9_save_30 rfl (by decide) g8 (by decide) rfl rfl ?_
      refine z_aload_n (pc' := 32) 0 dX9_save_31 rfl rfl rfl ?_
      refine z_getfield (pc' := 35) (C := RX9) (T := TX9) (N := 20) 3 3 dX9_save_32 iX9_save_X9 rfl rfl (by decide) mX9_save_f16 rfl rfl ?_
      refine z_iconst (pc' := 36) dX9_save_35 rfl ?_
      refine z_aload_n (pc' := 37) 0 dX9_save_36 rfl rfl rfl ?_
      refine z_getfield (pc' := 40) (C := RX9) (T := TX9) (N := 20) 3 8 dX9_save_37 iX9_save_X9 rfl rfl (by decide) mX9_save_f26 rfl rfl ?_
      refine z_sipush (pc' := 43) dX9_save_40 (by decide) rfl ?_
      refine z_iload_n (pc' := 44) 1 dX9_save_43 rfl rfl rfl ?_
      refine z_imul (pc' := 45) dX9_save_44 rfl ?_
      obtain ⟨q9, h10, hsh⟩ := zbind hsh
      refine z_callS (pc' := 48) (As := [.ref a_t_now, .int (zi (0 : Int)), .ref a_t_kept, .int (zi ((243 : Int) * p0))]) (rest := []) (wr := [(a_t_isKept, zB J 2 (va_up f_t_isKept (p0).toNat (1 : Int))), (a_t, .inr (8, [.int (zi q5.2), .int (zi c_t_high), .int (zi c_t_wide), .ref a_t_now, .ref a_t_trial, .ref a_t_diary, .int (zi c_t_acts), .int (zi c_t_next), .ref a_t_kept, .ref a_t_isKept, .ref a_t_script, .int (zi c_t_scriptSize), .int (zi c_t_spot), .ref a_t_read, .int (zi c_t_readHigh), .int (zi c_t_readWide), .ref a_t_wanted, .ref a_t_level, .ref a_t_chosen, .ref a_t_best]))]) 4 (zc_X9_copy l D J F (a_p0 := a_t_now) (a_p2 := a_t_kept) (f_p0 := f_t_now) (f_p2 := f_t_kept) (n_p0 := 243) (n_p2 := 486) (p1 := (0 : Int)) (p3 := ((243 : Int) * p0)) (hn_p0 := (by decide)) (hn_p2 := (by decide)) q9 h10) dX9_save_45 gX9_save_X9_copy rfl rfl rfl (by decide +kernel) ⟨Nat.le_of_ble_eq_true rfl, Nat.le_of_ble_eq_true rfl⟩ ⟨Nat.le_of_ble_eq_true rfl, Nat.le_of_ble_eq_true rfl⟩ (z_spl_of [0, 1, 2, 3] rfl rfl) rfl rfl (Nat.le_of_ble_eq_true rfl) rfl (fun rv w9 hq => ?_)
      obtain ⟨rfl, rfl⟩ := hq
      refine z_ws [(a_t_isKept, zB J 2 (va_up f_t_isKept (p0).toNat (1 : Int))), (a_t, .inr (8, [.int (zi q5.2), .int (zi c_t_high), .int (zi c_t_wide), .ref a_t_now, .ref a_t_trial, .ref a_t_diary, .int (zi c_t_acts), .int (zi c_t_next), .ref a_t_kept, .ref a_t_isKept, .ref a_t_script, .int (zi c_t_scriptSize), .int (zi c_t_spot), .ref a_t_read, .int (zi c_t_readHigh), .int (zi c_t_readWide), .ref a_t_wanted, .ref a_t_level, .ref a_t_chosen, .ref a_t_best])), (a_t_now, zI J 243 f_t_now), (a_t_kept, zI J 486 q9)] rfl ?_
      refine z_aload_n (pc' := 49) 0 dX9_save_48 rfl rfl rfl ?_
      refine z_getfield (pc' := 52) (C := RX9) (T := TX9) (N := 20) 1 3 dX9_save_49 iX9_save_X9 rfl rfl (by decide) mX9_save_f16 rfl rfl ?_
      refine z_sipush (pc' := 55) dX9_save_52 (by decide) rfl ?_
      refine z_iaload (pc' := 56) 2 dX9_save_55 rfl (by decide) (by decide) rfl ?_
      refine z_perm [(a_t, .inr (8, [.int (zi q5.2), .int (zi c_t_high), .int (zi c_t_wide), .ref a_t_now, .ref a_t_trial, .ref a_t_diary, .int (zi c_t_acts), .int (zi c_t_next), .ref a_t_kept, .ref a_t_isKept, .ref a_t_script, .int (zi c_t_scriptSize), .int (zi c_t_spot), .ref a_t_read, .int (zi c_t_readHigh), .int (zi c_t_readWide), .ref a_t_wanted, .ref a_t_level, .ref a_t_chosen, .ref a_t_best])), (a_t_now, zI J 243 f_t_now), (a_t_kept, zI J 486 q9), (a_t_isKept, zB J 2 (va_up f_t_isKept (p0).toNat (1 : Int)))] [(0, .ref a_t), (1, .int (zi p0))] [1, 2, 3, 0] [0, 1] rfl rfl rfl ?_
      cases hsh
      exact z_iret rfl dX9_save_56 ⟨rfl, rfl⟩
    · replace hsh := zif_f q hsh
      refine z_iconst (pc' := 23) dX9_save_22 rfl ?_
      refine z_perm [(a_t, .inr (8, [.int (zi q5.2), .int (zi c_t_high), .int (zi c_t_wide), .ref a_t_now, .ref a_t_trial, .ref a_t_diary, .int (zi c_t_acts), .int (zi c_t_next), .ref a_t_kept, .ref a_t_isKept, .ref a_t_script, .int (zi c_t_scriptSize), .int (zi c_t_spot), .ref a_t_read, .int (zi c_t_readHigh), .int (zi c_t_readWide), .ref a_t_wanted, .ref a_t_level, .ref a_t_chosen, .ref a_t_best])), (a_t_now, zI J 243 f_t_now), (a_t_kept, zI J 486 f_t_kept), (a_t_isKept, zB J 2 f_t_isKept)] [(0, .ref a_t), (1, .int (zi p0))] [3, 0, 1, 2] [0, 1] rfl rfl rfl ?_
      cases hsh
      exact z_iret rfl dX9_save_23 ⟨rfl, rfl⟩
  · replace hsh := zif_f q hsh
    refine z_iconst (pc' := 12) dX9_save_11 rfl ?_
    refine z_goto (tgt := 16) dX9_save_12 (by decide) ?_
    obtain ⟨q11, h12, hsh⟩ := zbind hsh
    refine z_callV (pc' := 19) (C := RX9) (As := [.int (zi (0 : Int))]) (rest := []) (wr := [(a_t_now, zI J 243 f_t_now), (a_t_kept, zI J 486 f_t_kept), (a_t_isKept, zB J 2 f_t_isKept)]) 1 (zc_X9_refused l D J F (a_t := a_t) (a_t_now := a_t_now) (a_t_trial := a_t_trial) (a_t_diary := a_t_diary) (a_t_kept := a_t_kept) (a_t_isKept := a_t_isKept) (a_t_script := a_t_script) (a_t_read := a_t_read) (a_t_wanted := a_t_wanted) (a_t_level := a_t_level) (a_t_chosen := a_t_chosen) (a_t_best := a_t_best) (c_t_refusal := c_t_refusal) (c_t_high := c_t_high) (c_t_wide := c_t_wide) (c_t_acts := c_t_acts) (c_t_next := c_t_next) (c_t_scriptSize := c_t_scriptSize) (c_t_spot := c_t_spot) (c_t_readHigh := c_t_readHigh) (c_t_readWide := c_t_readWide) (p0 := (0 : Int))  q11 h12) dX9_save_16 gX9_save_X9_refused rfl rfl rfl (by decide +kernel) ⟨Nat.le_of_ble_eq_true rfl, Nat.le_of_ble_eq_true rfl⟩ ⟨Nat.le_of_ble_eq_true rfl, Nat.le_of_ble_eq_true rfl⟩ (z_spl_of [0, 1, 2, 3] rfl rfl) rfl rfl rfl rfl (Nat.le_of_ble_eq_true rfl) rfl (fun rv w9 hq => ?_)
    obtain ⟨rfl, rfl⟩ := hq
    refine z_ws [(a_t_now, zI J 243 f_t_now), (a_t_kept, zI J 486 f_t_kept), (a_t_isKept, zB J 2 f_t_isKept), (a_t, .inr (8, [.int (zi q11.2), .int (zi c_t_high), .int (zi c_t_wide), .ref a_t_now, .ref a_t_trial, .ref a_t_diary, .int (zi c_t_acts), .int (zi c_t_next), .ref a_t_kept, .ref a_t_isKept, .ref a_t_script, .int (zi c_t_scriptSize), .int (zi c_t_spot), .ref a_t_read, .int (zi c_t_readHigh), .int (zi c_t_readWide), .ref a_t_wanted, .ref a_t_level, .ref a_t_chosen, .ref a_t_best]))] rfl ?_
    have g13 := zkr_p hsh
    replace hsh := zkr_k hsh
    refine z_if_eq (pc' := 22) (tgt := 24) dX9_save_19 (by decide) g13 rfl (fun q => ?_) (fun q => ?_)
    · replace hsh := zif_t q hsh
      refine z_aload_n (pc' := 25) 0 dX9_save_24 rfl rfl rfl ?_
      refine z_getfield (pc' := 28) (C := RX9) (T := TX9) (N := 20) 3 9 dX9_save_25 iX9_save_X9 rfl rfl (by decide) mX9_save_f29 rfl rfl ?_
      refine z_iload_n (pc' := 29) 1 dX9_save_28 rfl rfl rfl ?_
      refine z_iconst (pc' := 30) dX9_save_29 rfl ?_
      have g14 := zkx_p hsh
      replace hsh := zkx_k hsh
      refine z_bastore (pc' := 31) 2 [(a_t_now, zI J 243 f_t_now), (a_t_kept, zI J 486 f_t_kept), (a_t_isKept, zB J 2 (va_up f_t_isKept (p0).toNat (1 : Int))), (a_t, .inr (8, [.int (zi q11.2), .int (zi c_t_high), .int (zi c_t_wide), .ref a_t_now, .ref a_t_trial, .ref a_t_diary, .int (zi c_t_acts), .int (zi c_t_next), .ref a_t_kept, .ref a_t_isKept, .ref a_t_script, .int (zi c_t_scriptSize), .int (zi c_t_spot), .ref a_t_read, .int (zi c_t_readHigh), .int (zi c_t_readWide), .ref a_t_wanted, .ref a_t_level, .ref a_t_chosen, .ref a_t_best]))] dX9_save_30 rfl (by decide) g14 (by decide) rfl rfl ?_
      refine z_aload_n (pc' := 32) 0 dX9_save_31 rfl rfl rfl ?_
      refine z_getfield (pc' := 35) (C := RX9) (T := TX9) (N := 20) 3 3 dX9_save_32 iX9_save_X9 rfl rfl (by decide) mX9_save_f16 rfl rfl ?_
      refine z_iconst (pc' := 36) dX9_save_35 rfl ?_
      refine z_aload_n (pc' := 37) 0 dX9_save_36 rfl rfl rfl ?_
      refine z_getfield (pc' := 40) (C := RX9) (T := TX9) (N := 20) 3 8 dX9_save_37 iX9_save_X9 rfl rfl (by decide) mX9_save_f26 rfl rfl ?_
      refine z_sipush (pc' := 43) dX9_save_40 (by decide) rfl ?_
      refine z_iload_n (pc' := 44) 1 dX9_save_43 rfl rfl rfl ?_
      refine z_imul (pc' := 45) dX9_save_44 rfl ?_
      obtain ⟨q15, h16, hsh⟩ := zbind hsh
      refine z_callS (pc' := 48) (As := [.ref a_t_now, .int (zi (0 : Int)), .ref a_t_kept, .int (zi ((243 : Int) * p0))]) (rest := []) (wr := [(a_t_isKept, zB J 2 (va_up f_t_isKept (p0).toNat (1 : Int))), (a_t, .inr (8, [.int (zi q11.2), .int (zi c_t_high), .int (zi c_t_wide), .ref a_t_now, .ref a_t_trial, .ref a_t_diary, .int (zi c_t_acts), .int (zi c_t_next), .ref a_t_kept, .ref a_t_isKept, .ref a_t_script, .int (zi c_t_scriptSize), .int (zi c_t_spot), .ref a_t_read, .int (zi c_t_readHigh), .int (zi c_t_readWide), .ref a_t_wanted, .ref a_t_level, .ref a_t_chosen, .ref a_t_best]))]) 4 (zc_X9_copy l D J F (a_p0 := a_t_now) (a_p2 := a_t_kept) (f_p0 := f_t_now) (f_p2 := f_t_kept) (n_p0 := 243) (n_p2 := 486) (p1 := (0 : Int)) (p3 := ((243 : Int) * p0)) (hn_p0 := (by decide)) (hn_p2 := (by decide)) q15 h16) dX9_save_45 gX9_save_X9_copy rfl rfl rfl (by decide +kernel) ⟨Nat.le_of_ble_eq_true rfl, Nat.le_of_ble_eq_true rfl⟩ ⟨Nat.le_of_ble_eq_true rfl, Nat.le_of_ble_eq_true rfl⟩ (z_spl_of [0, 1, 2, 3] rfl rfl) rfl rfl (Nat.le_of_ble_eq_true rfl) rfl (fun rv w9 hq => ?_)
      obtain ⟨rfl, rfl⟩ := hq
      refine z_ws [(a_t_isKept, zB J 2 (va_up f_t_isKept (p0).toNat (1 : Int))), (a_t, .inr (8, [.int (zi q11.2), .int (zi c_t_high), .int (zi c_t_wide), .ref a_t_now, .ref a_t_trial, .ref a_t_diary, .int (zi c_t_acts), .int (zi c_t_next), .ref a_t_kept, .ref a_t_isKept, .ref a_t_script, .int (zi c_t_scriptSize), .int (zi c_t_spot), .ref a_t_read, .int (zi c_t_readHigh), .int (zi c_t_readWide), .ref a_t_wanted, .ref a_t_level, .ref a_t_chosen, .ref a_t_best])), (a_t_now, zI J 243 f_t_now), (a_t_kept, zI J 486 q15)] rfl ?_
      refine z_aload_n (pc' := 49) 0 dX9_save_48 rfl rfl rfl ?_
      refine z_getfield (pc' := 52) (C := RX9) (T := TX9) (N := 20) 1 3 dX9_save_49 iX9_save_X9 rfl rfl (by decide) mX9_save_f16 rfl rfl ?_
      refine z_sipush (pc' := 55) dX9_save_52 (by decide) rfl ?_
      refine z_iaload (pc' := 56) 2 dX9_save_55 rfl (by decide) (by decide) rfl ?_
      refine z_perm [(a_t, .inr (8, [.int (zi q11.2), .int (zi c_t_high), .int (zi c_t_wide), .ref a_t_now, .ref a_t_trial, .ref a_t_diary, .int (zi c_t_acts), .int (zi c_t_next), .ref a_t_kept, .ref a_t_isKept, .ref a_t_script, .int (zi c_t_scriptSize), .int (zi c_t_spot), .ref a_t_read, .int (zi c_t_readHigh), .int (zi c_t_readWide), .ref a_t_wanted, .ref a_t_level, .ref a_t_chosen, .ref a_t_best])), (a_t_now, zI J 243 f_t_now), (a_t_kept, zI J 486 q15), (a_t_isKept, zB J 2 (va_up f_t_isKept (p0).toNat (1 : Int)))] [(0, .ref a_t), (1, .int (zi p0))] [1, 2, 3, 0] [0, 1] rfl rfl rfl ?_
      cases hsh
      exact z_iret rfl dX9_save_56 ⟨rfl, rfl⟩
    · replace hsh := zif_f q hsh
      refine z_iconst (pc' := 23) dX9_save_22 rfl ?_
      refine z_perm [(a_t, .inr (8, [.int (zi q11.2), .int (zi c_t_high), .int (zi c_t_wide), .ref a_t_now, .ref a_t_trial, .ref a_t_diary, .int (zi c_t_acts), .int (zi c_t_next), .ref a_t_kept, .ref a_t_isKept, .ref a_t_script, .int (zi c_t_scriptSize), .int (zi c_t_spot), .ref a_t_read, .int (zi c_t_readHigh), .int (zi c_t_readWide), .ref a_t_wanted, .ref a_t_level, .ref a_t_chosen, .ref a_t_best])), (a_t_now, zI J 243 f_t_now), (a_t_kept, zI J 486 f_t_kept), (a_t_isKept, zB J 2 f_t_isKept)] [(0, .ref a_t), (1, .int (zi p0))] [3, 0, 1, 2] [0, 1] rfl rfl rfl ?_
      cases hsh
      exact z_iret rfl dX9_save_23 ⟨rfl, rfl⟩
def sh_X9_restore (F : Nat) (c_t_acts : Int) (f_t_now : Nat → Int) (f_t_kept : Nat → Int) (f_t_isKept : Nat → Int) (p0 : Int) : Option (Int × Int × Int × (Nat → Int)) := zkr p0 ((sh_X9_in F p0 (0 : Int) (1 : Int)).bind (fun (q2 : Int) => zkr q2 (if q2 = (0 : Int) then (sh_X9_refused F (1 : Int)).bind (fun (q17 : Int × Int) => zkr q17.1 (if q17.1 = (0 : Int) then (sh_X9_copy F f_t_kept f_t_now 486 243 ((243 : Int) * p0) (0 : Int)).bind (fun (q20 : (Nat → Int)) => some ((q20 ((241 : Int)).toNat), q17.2, (0 : Int), q20)) else some ((0 : Int), q17.2, c_t_acts, f_t_now))) else zkx p0 2 (zkr (f_t_isKept (p0).toNat) (if (f_t_isKept (p0).toNat) = (0 : Int) then (sh_X9_refused F (2 : Int)).bind (fun (q12 : Int × Int) => zkr q12.1 (if q12.1 = (0 : Int) then (sh_X9_copy F f_t_kept f_t_now 486 243 ((243 : Int) * p0) (0 : Int)).bind (fun (q15 : (Nat → Int)) => some ((q15 ((241 : Int)).toNat), q12.2, (0 : Int), q15)) else some ((0 : Int), q12.2, c_t_acts, f_t_now))) else (sh_X9_refused F (0 : Int)).bind (fun (q7 : Int × Int) => zkr q7.1 (if q7.1 = (0 : Int) then (sh_X9_copy F f_t_kept f_t_now 486 243 ((243 : Int) * p0) (0 : Int)).bind (fun (q10 : (Nat → Int)) => some ((q10 ((241 : Int)).toNat), q7.2, (0 : Int), q10)) else some ((0 : Int), q7.2, c_t_acts, f_t_now))))))))
theorem mX9_restore_f29 : Cond.fieldLink RX9 29 (TX9 9).1 (TX9 9).2.1 (TX9 9).2.2.1 ∈ wsX9_restore := List.mem_of_getElem? (i := 1) rfl
theorem iX9_restore_X9 : ∀ w ∈ wsX90, w ∈ wsX9_restore := fun _ h => (List.mem_cons_of_mem _ (List.mem_append_right _ h))
theorem mX9_restore_f26 : Cond.fieldLink RX9 26 (TX9 8).1 (TX9 8).2.1 (TX9 8).2.2.1 ∈ wsX9_restore := List.mem_of_getElem? (i := 2) rfl
theorem mX9_restore_f16 : Cond.fieldLink RX9 16 (TX9 3).1 (TX9 3).2.1 (TX9 3).2.2.1 ∈ wsX9_restore := List.mem_of_getElem? (i := 3) rfl
theorem mX9_restore_f69 : Cond.fieldLink RX9 69 (TX9 6).1 (TX9 6).2.1 (TX9 6).2.2.1 ∈ wsX9_restore := List.mem_of_getElem? (i := 4) rfl
set_option maxRecDepth 100000 in
set_option maxHeartbeats 4000000 in
theorem zc_X9_restore (l : Launch) (D : va_G) (J : Nat → ClassId) (F : Nat) (a_t : Nat) (a_t_now : Nat) (a_t_trial : Nat) (a_t_diary : Nat) (a_t_kept : Nat) (a_t_isKept : Nat) (a_t_script : Nat) (a_t_read : Nat) (a_t_wanted : Nat) (a_t_level : Nat) (a_t_chosen : Nat) (a_t_best : Nat) (c_t_refusal : Int) (c_t_high : Int) (c_t_wide : Int) (c_t_acts : Int) (c_t_next : Int) (c_t_scriptSize : Int) (c_t_spot : Int) (c_t_readHigh : Int) (c_t_readWide : Int) (f_t_now : Nat → Int) (f_t_kept : Nat → Int) (f_t_isKept : Nat → Int) (p0 : Int) (res : Int × Int × Int × (Nat → Int)) (hsh : sh_X9_restore F c_t_acts f_t_now f_t_kept f_t_isKept p0 = some res) : ZM l D J yX9_restore wsX9_restore ({ frames := 1, cells := 0, slots := 0, locals := 25 } : Room) 0 0 [.ref a_t, .int (zi p0)] [(a_t, .inr (8, [.int (zi c_t_refusal), .int (zi c_t_high), .int (zi c_t_wide), .ref a_t_now, .ref a_t_trial, .ref a_t_diary, .int (zi c_t_acts), .int (zi c_t_next), .ref a_t_kept, .ref a_t_isKept, .ref a_t_script, .int (zi c_t_scriptSize), .int (zi c_t_spot), .ref a_t_read, .int (zi c_t_readHigh), .int (zi c_t_readWide), .ref a_t_wanted, .ref a_t_level, .ref a_t_chosen, .ref a_t_best])), (a_t_now, zI J 243 f_t_now), (a_t_kept, zI J 486 f_t_kept), (a_t_isKept, zB J 2 f_t_isKept)] (fun rv w9 => rv = some (.int (zi res.1)) ∧ w9 = [(a_t, .inr (8, [.int (zi res.2.1), .int (zi c_t_high), .int (zi c_t_wide), .ref a_t_now, .ref a_t_trial, .ref a_t_diary, .int (zi res.2.2.1), .int (zi c_t_next), .ref a_t_kept, .ref a_t_isKept, .ref a_t_script, .int (zi c_t_scriptSize), .int (zi c_t_spot), .ref a_t_read, .int (zi c_t_readHigh), .int (zi c_t_readWide), .ref a_t_wanted, .ref a_t_level, .ref a_t_chosen, .ref a_t_best])), (a_t_now, zI J 243 res.2.2.2), (a_t_kept, zI J 486 f_t_kept), (a_t_isKept, zB J 2 f_t_isKept)]) := by
  refine z_ofZ (cc := cX9_restore) (maxL := 2) (ret := (some .int)) 0 0 (by decide) rfl (Nat.le_of_ble_eq_true rfl) [(0, .ref a_t), (1, .int (zi p0))] rfl ?_
  intro p e s m args below meth c A
  unfold sh_X9_restore at hsh
  refine z_aload_n (pc' := 1) 0 dX9_restore_0 rfl rfl rfl ?_
  refine z_iload_n (pc' := 2) 1 dX9_restore_1 rfl rfl rfl ?_
  have g1 := zkr_p hsh
  replace hsh := zkr_k hsh
  refine z_i2l (pc' := 3) dX9_restore_2 g1 rfl ?_
  refine z_lconst (pc' := 4) 0 dX9_restore_3 (by decide) rfl ?_
  refine z_lconst (pc' := 5) 1 dX9_restore_4 (by decide) rfl ?_
  obtain ⟨q2, h3, hsh⟩ := zbind hsh
  refine z_callS (pc' := 8) (As := [.long (zl p0), .long (zl (0 : Int)), .long (zl (1 : Int))]) (rest := [.ref a_t]) (wr := [(a_t, .inr (8, [.int (zi c_t_refusal), .int (zi c_t_high), .int (zi c_t_wide), .ref a_t_now, .ref a_t_trial, .ref a_t_diary, .int (zi c_t_acts), .int (zi c_t_next), .ref a_t_kept, .ref a_t_isKept, .ref a_t_script, .int (zi c_t_scriptSize), .int (zi c_t_spot), .ref a_t_read, .int (zi c_t_readHigh), .int (zi c_t_readWide), .ref a_t_wanted, .ref a_t_level, .ref a_t_chosen, .ref a_t_best])), (a_t_now, zI J 243 f_t_now), (a_t_kept, zI J 486 f_t_kept), (a_t_isKept, zB J 2 f_t_isKept)]) 3 (zc_X9_in l D J F (p0 := p0) (p1 := (0 : Int)) (p2 := (1 : Int))  q2 h3) dX9_restore_5 gX9_restore_X9_in rfl rfl rfl (by decide +kernel) ⟨Nat.le_of_ble_eq_true rfl, Nat.le_of_ble_eq_true rfl⟩ ⟨Nat.le_of_ble_eq_true rfl, Nat.le_of_ble_eq_true rfl⟩ (z_spl_of [0, 1, 2, 3] rfl rfl) rfl rfl (Nat.le_of_ble_eq_true rfl) rfl (fun rv w9 hq => ?_)
  obtain ⟨rfl, rfl⟩ := hq
  refine z_ws [(a_t, .inr (8, [.int (zi c_t_refusal), .int (zi c_t_high), .int (zi c_t_wide), .ref a_t_now, .ref a_t_trial, .ref a_t_diary, .int (zi c_t_acts), .int (zi c_t_next), .ref a_t_kept, .ref a_t_isKept, .ref a_t_script, .int (zi c_t_scriptSize), .int (zi c_t_spot), .ref a_t_read, .int (zi c_t_readHigh), .int (zi c_t_readWide), .ref a_t_wanted, .ref a_t_level, .ref a_t_chosen, .ref a_t_best])), (a_t_now, zI J 243 f_t_now), (a_t_kept, zI J 486 f_t_kept), (a_t_isKept, zB J 2 f_t_isKept)] rfl ?_
  have g4 := zkr_p hsh
  replace hsh := zkr_k hsh
  refine z_if_ne (pc' := 11) (tgt := 15) dX9_restore_8 (by decide) g4 rfl (fun q => ?_) (fun q => ?_)
  · replace hsh := zif_f q hsh
    refine z_aload_n (pc' := 16) 0 dX9_restore_15 rfl rfl rfl ?_
    refine z_getfield (pc' := 19) (C := RX9) (T := TX9) (N := 20) 0 9 dX9_restore_16 iX9_restore_X9 rfl rfl (by decide) mX9_restore_f29 rfl rfl ?_
    refine z_iload_n (pc' := 20) 1 dX9_restore_19 rfl rfl rfl ?_
    have g5 := zkx_p hsh
    replace hsh := zkx_k hsh
    refine z_baload (pc' := 21) 3 dX9_restore_20 rfl (by decide) g5 rfl ?_
    have g6 := zkr_p hsh
    replace hsh := zkr_k hsh
    refine z_if_ne (pc' := 24) (tgt := 28) dX9_restore_21 (by decide) g6 rfl (fun q => ?_) (fun q => ?_)
    · replace hsh := zif_f q hsh
      refine z_iconst (pc' := 29) dX9_restore_28 rfl ?_
      obtain ⟨q7, h8, hsh⟩ := zbind hsh
      refine z_callV (pc' := 32) (C := RX9) (As := [.int (zi (0 : Int))]) (rest := []) (wr := [(a_t_now, zI J 243 f_t_now), (a_t_kept, zI J 486 f_t_kept), (a_t_isKept, zB J 2 f_t_isKept)]) 1 (zc_X9_refused l D J F (a_t := a_t) (a_t_now := a_t_now) (a_t_trial := a_t_trial) (a_t_diary := a_t_diary) (a_t_kept := a_t_kept) (a_t_isKept := a_t_isKept) (a_t_script := a_t_script) (a_t_read := a_t_read) (a_t_wanted := a_t_wanted) (a_t_level := a_t_level) (a_t_chosen := a_t_chosen) (a_t_best := a_t_best) (c_t_refusal := c_t_refusal) (c_t_high := c_t_high) (c_t_wide := c_t_wide) (c_t_acts := c_t_acts) (c_t_next := c_t_next) (c_t_scriptSize := c_t_scriptSize) (c_t_spot := c_t_spot) (c_t_readHigh := c_t_readHigh) (c_t_readWide := c_t_readWide) (p0 := (0 : Int))  q7 h8) dX9_restore_29 gX9_restore_X9_refused rfl rfl rfl (by decide +kernel) ⟨Nat.le_of_ble_eq_true rfl, Nat.le_of_ble_eq_true rfl⟩ ⟨Nat.le_of_ble_eq_true rfl, Nat.le_of_ble_eq_true rfl⟩ (z_spl_of [0, 1, 2, 3] rfl rfl) rfl rfl rfl rfl (Nat.le_of_ble_eq_true rfl) rfl (fun rv w9 hq => ?_)
      obtain ⟨rfl, rfl⟩ := hq
      refine z_ws [(a_t_now, zI J 243 f_t_now), (a_t_kept, zI J 486 f_t_kept), (a_t_isKept, zB J 2 f_t_isKept), (a_t, .inr (8, [.int (zi q7.2), .int (zi c_t_high), .int (zi c_t_wide), .ref a_t_now, .ref a_t_trial, .ref a_t_diary, .int (zi c_t_acts), .int (zi c_t_next), .ref a_t_kept, .ref a_t_isKept, .ref a_t_script, .int (zi c_t_scriptSize), .int (zi c_t_spot), .ref a_t_read, .int (zi c_t_readHigh), .int (zi c_t_readWide), .ref a_t_wanted, .ref a_t_level, .ref a_t_chosen, .ref a_t_best]))] rfl ?_
      have g9 := zkr_p hsh
      replace hsh := zkr_k hsh
      refine z_if_eq (pc' := 35) (tgt := 37) dX9_restore_32 (by decide) g9 rfl (fun q => ?_) (fun q => ?_)
      · replace hsh := zif_t q hsh
        refine z_aload_n (pc' := 38) 0 dX9_restore_37 rfl rfl rfl ?_
        refine z_getfield (pc' := 41) (C := RX9) (T := TX9) (N := 20) 3 8 dX9_restore_38 iX9_restore_X9 rfl rfl (by decide) mX9_restore_f26 rfl rfl ?_
        refine z_sipush (pc' := 44) dX9_restore_41 (by decide) rfl ?_
        refine z_iload_n (pc' := 45) 1 dX9_restore_44 rfl rfl rfl ?_
        refine z_imul (pc' := 46) dX9_restore_45 rfl ?_
        refine z_aload_n (pc' := 47) 0 dX9_restore_46 rfl rfl rfl ?_
        refine z_getfield (pc' := 50) (C := RX9) (T := TX9) (N := 20) 3 3 dX9_restore_47 iX9_restore_X9 rfl rfl (by decide) mX9_restore_f16 rfl rfl ?_
        refine z_iconst (pc' := 51) dX9_restore_50 rfl ?_
        obtain ⟨q10, h11, hsh⟩ := zbind hsh
        refine z_callS (pc' := 54) (As := [.ref a_t_kept, .int (zi ((243 : Int) * p0)), .ref a_t_now, .int (zi (0 : Int))]) (rest := []) (wr := [(a_t_isKept, zB J 2 f_t_isKept), (a_t, .inr (8, [.int (zi q7.2), .int (zi c_t_high), .int (zi c_t_wide), .ref a_t_now, .ref a_t_trial, .ref a_t_diary, .int (zi c_t_acts), .int (zi c_t_next), .ref a_t_kept, .ref a_t_isKept, .ref a_t_script, .int (zi c_t_scriptSize), .int (zi c_t_spot), .ref a_t_read, .int (zi c_t_readHigh), .int (zi c_t_readWide), .ref a_t_wanted, .ref a_t_level, .ref a_t_chosen, .ref a_t_best]))]) 4 (zc_X9_copy l D J F (a_p0 := a_t_kept) (a_p2 := a_t_now) (f_p0 := f_t_kept) (f_p2 := f_t_now) (n_p0 := 486) (n_p2 := 243) (p1 := ((243 : Int) * p0)) (p3 := (0 : Int)) (hn_p0 := (by decide)) (hn_p2 := (by decide)) q10 h11) dX9_restore_51 gX9_restore_X9_copy rfl rfl rfl (by decide +kernel) ⟨Nat.le_of_ble_eq_true rfl, Nat.le_of_ble_eq_true rfl⟩ ⟨Nat.le_of_ble_eq_true rfl, Nat.le_of_ble_eq_true rfl⟩ (z_spl_of [1, 0, 2, 3] rfl rfl) rfl rfl (Nat.le_of_ble_eq_true rfl) rfl (fun rv w9 hq => ?_)
        obtain ⟨rfl, rfl⟩ := hq
        refine z_ws [(a_t_isKept, zB J 2 f_t_isKept), (a_t, .inr (8, [.int (zi q7.2), .int (zi c_t_high), .int (zi c_t_wide), .ref a_t_now, .ref a_t_trial, .ref a_t_diary, .int (zi c_t_acts), .int (zi c_t_next), .ref a_t_kept, .ref a_t_isKept, .ref a_t_script, .int (zi c_t_scriptSize), .int (zi c_t_spot), .ref a_t_read, .int (zi c_t_readHigh), .int (zi c_t_readWide), .ref a_t_wanted, .ref a_t_level, .ref a_t_chosen, .ref a_t_best])), (a_t_kept, zI J 486 f_t_kept), (a_t_now, zI J 243 q10)] rfl ?_
        refine z_aload_n (pc' := 55) 0 dX9_restore_54 rfl rfl rfl ?_
        refine z_iconst (pc' := 56) dX9_restore_55 rfl ?_
        refine z_putfield (pc' := 59) (C := RX9) (T := TX9) (N := 20) (ty := .int) 1 6 [(a_t_isKept, zB J 2 f_t_isKept), (a_t, .inr (8, [.int (zi q7.2), .int (zi c_t_high), .int (zi c_t_wide), .ref a_t_now, .ref a_t_trial, .ref a_t_diary, .int (zi (0 : Int)), .int (zi c_t_next), .ref a_t_kept, .ref a_t_isKept, .ref a_t_script, .int (zi c_t_scriptSize), .int (zi c_t_spot), .ref a_t_read, .int (zi c_t_readHigh), .int (zi c_t_readWide), .ref a_t_wanted, .ref a_t_level, .ref a_t_chosen, .ref a_t_best])), (a_t_kept, zI J 486 f_t_kept), (a_t_now, zI J 243 q10)] tyX9 tyX9_ok nmX9 dX9_restore_56 iX9_restore_X9 rfl rfl (by decide) mX9_restore_f69 rfl (by decide +kernel) rfl rfl (Nat.le_of_ble_eq_true rfl) rfl rfl rfl ?_
        refine z_aload_n (pc' := 60) 0 dX9_restore_59 rfl rfl rfl ?_
        refine z_getfield (pc' := 63) (C := RX9) (T := TX9) (N := 20) 1 3 dX9_restore_60 iX9_restore_X9 rfl rfl (by decide) mX9_restore_f16 rfl rfl ?_
        refine z_sipush (pc' := 66) dX9_restore_63 (by decide) rfl ?_
        refine z_iaload (pc' := 67) 3 dX9_restore_66 rfl (by decide) (by decide) rfl ?_
        refine z_perm [(a_t, .inr (8, [.int (zi q7.2), .int (zi c_t_high), .int (zi c_t_wide), .ref a_t_now, .ref a_t_trial, .ref a_t_diary, .int (zi (0 : Int)), .int (zi c_t_next), .ref a_t_kept, .ref a_t_isKept, .ref a_t_script, .int (zi c_t_scriptSize), .int (zi c_t_spot), .ref a_t_read, .int (zi c_t_readHigh), .int (zi c_t_readWide), .ref a_t_wanted, .ref a_t_level, .ref a_t_chosen, .ref a_t_best])), (a_t_now, zI J 243 q10), (a_t_kept, zI J 486 f_t_kept), (a_t_isKept, zB J 2 f_t_isKept)] [(0, .ref a_t), (1, .int (zi p0))] [1, 3, 2, 0] [0, 1] rfl rfl rfl ?_
        cases hsh
        exact z_iret rfl dX9_restore_67 ⟨rfl, rfl⟩
      · replace hsh := zif_f q hsh
        refine z_iconst (pc' := 36) dX9_restore_35 rfl ?_
        refine z_perm [(a_t, .inr (8, [.int (zi q7.2), .int (zi c_t_high), .int (zi c_t_wide), .ref a_t_now, .ref a_t_trial, .ref a_t_diary, .int (zi c_t_acts), .int (zi c_t_next), .ref a_t_kept, .ref a_t_isKept, .ref a_t_script, .int (zi c_t_scriptSize), .int (zi c_t_spot), .ref a_t_read, .int (zi c_t_readHigh), .int (zi c_t_readWide), .ref a_t_wanted, .ref a_t_level, .ref a_t_chosen, .ref a_t_best])), (a_t_now, zI J 243 f_t_now), (a_t_kept, zI J 486 f_t_kept), (a_t_isKept, zB J 2 f_t_isKept)] [(0, .ref a_t), (1, .int (zi p0))] [3, 0, 1, 2] [0, 1] rfl rfl rfl ?_
        cases hsh
        exact z_iret rfl dX9_restore_36 ⟨rfl, rfl⟩
    · replace hsh := zif_t q hsh
      refine z_iconst (pc' := 25) dX9_restore_24 rfl ?_
      refine z_goto (tgt := 29) dX9_restore_25 (by decide) ?_
      obtain ⟨q12, h13, hsh⟩ := zbind hsh
      refine z_callV (pc' := 32) (C := RX9) (As := [.int (zi (2 : Int))]) (rest := []) (wr := [(a_t_now, zI J 243 f_t_now), (a_t_kept, zI J 486 f_t_kept), (a_t_isKept, zB J 2 f_t_isKept)]) 1 (zc_X9_refused l D J F (a_t := a_t) (a_t_now := a_t_now) (a_t_trial := a_t_trial) (a_t_diary := a_t_diary) (a_t_kept := a_t_kept) (a_t_isKept := a_t_isKept) (a_t_script := a_t_script) (a_t_read := a_t_read) (a_t_wanted := a_t_wanted) (a_t_level := a_t_level) (a_t_chosen := a_t_chosen) (a_t_best := a_t_best) (c_t_refusal := c_t_refusal) (c_t_high := c_t_high) (c_t_wide := c_t_wide) (c_t_acts := c_t_acts) (c_t_next := c_t_next) (c_t_scriptSize := c_t_scriptSize) (c_t_spot := c_t_spot) (c_t_readHigh := c_t_readHigh) (c_t_readWide := c_t_readWide) (p0 := (2 : Int))  q12 h13) dX9_restore_29 gX9_restore_X9_refused rfl rfl rfl (by decide +kernel) ⟨Nat.le_of_ble_eq_true rfl, Nat.le_of_ble_eq_true rfl⟩ ⟨Nat.le_of_ble_eq_true rfl, Nat.le_of_ble_eq_true rfl⟩ (z_spl_of [0, 1, 2, 3] rfl rfl) rfl rfl rfl rfl (Nat.le_of_ble_eq_true rfl) rfl (fun rv w9 hq => ?_)
      obtain ⟨rfl, rfl⟩ := hq
      refine z_ws [(a_t_now, zI J 243 f_t_now), (a_t_kept, zI J 486 f_t_kept), (a_t_isKept, zB J 2 f_t_isKept), (a_t, .inr (8, [.int (zi q12.2), .int (zi c_t_high), .int (zi c_t_wide), .ref a_t_now, .ref a_t_trial, .ref a_t_diary, .int (zi c_t_acts), .int (zi c_t_next), .ref a_t_kept, .ref a_t_isKept, .ref a_t_script, .int (zi c_t_scriptSize), .int (zi c_t_spot), .ref a_t_read, .int (zi c_t_readHigh), .int (zi c_t_readWide), .ref a_t_wanted, .ref a_t_level, .ref a_t_chosen, .ref a_t_best]))] rfl ?_
      have g14 := zkr_p hsh
      replace hsh := zkr_k hsh
      refine z_if_eq (pc' := 35) (tgt := 37) dX9_restore_32 (by decide) g14 rfl (fun q => ?_) (fun q => ?_)
      · replace hsh := zif_t q hsh
        refine z_aload_n (pc' := 38) 0 dX9_restore_37 rfl rfl rfl ?_
        refine z_getfield (pc' := 41) (C := RX9) (T := TX9) (N := 20) 3 8 dX9_restore_38 iX9_restore_X9 rfl rfl (by decide) mX9_restore_f26 rfl rfl ?_
        refine z_sipush (pc' := 44) dX9_restore_41 (by decide) rfl ?_
        refine z_iload_n (pc' := 45) 1 dX9_restore_44 rfl rfl rfl ?_
        refine z_imul (pc' := 46) dX9_restore_45 rfl ?_
        refine z_aload_n (pc' := 47) 0 dX9_restore_46 rfl rfl rfl ?_
        refine z_getfield (pc' := 50) (C := RX9) (T := TX9) (N := 20) 3 3 dX9_restore_47 iX9_restore_X9 rfl rfl (by decide) mX9_restore_f16 rfl rfl ?_
        refine z_iconst (pc' := 51) dX9_restore_50 rfl ?_
        obtain ⟨q15, h16, hsh⟩ := zbind hsh
        refine z_callS (pc' := 54) (As := [.ref a_t_kept, .int (zi ((243 : Int) * p0)), .ref a_t_now, .int (zi (0 : Int))]) (rest := []) (wr := [(a_t_isKept, zB J 2 f_t_isKept), (a_t, .inr (8, [.int (zi q12.2), .int (zi c_t_high), .int (zi c_t_wide), .ref a_t_now, .ref a_t_trial, .ref a_t_diary, .int (zi c_t_acts), .int (zi c_t_next), .ref a_t_kept, .ref a_t_isKept, .ref a_t_script, .int (zi c_t_scriptSize), .int (zi c_t_spot), .ref a_t_read, .int (zi c_t_readHigh), .int (zi c_t_readWide), .ref a_t_wanted, .ref a_t_level, .ref a_t_chosen, .ref a_t_best]))]) 4 (zc_X9_copy l D J F (a_p0 := a_t_kept) (a_p2 := a_t_now) (f_p0 := f_t_kept) (f_p2 := f_t_now) (n_p0 := 486) (n_p2 := 243) (p1 := ((243 : Int) * p0)) (p3 := (0 : Int)) (hn_p0 := (by decide)) (hn_p2 := (by decide)) q15 h16) dX9_restore_51 gX9_restore_X9_copy rfl rfl rfl (by decide +kernel) ⟨Nat.le_of_ble_eq_true rfl, Nat.le_of_ble_eq_true rfl⟩ ⟨Nat.le_of_ble_eq_true rfl, Nat.le_of_ble_eq_true rfl⟩ (z_spl_of [1, 0, 2, 3] rfl rfl) rfl rfl (Nat.le_of_ble_eq_true rfl) rfl (fun rv w9 hq => ?_)
        obtain ⟨rfl, rfl⟩ := hq
        refine z_ws [(a_t_isKept, zB J 2 f_t_isKept), (a_t, .inr (8, [.int (zi q12.2), .int (zi c_t_high), .int (zi c_t_wide), .ref a_t_now, .ref a_t_trial, .ref a_t_diary, .int (zi c_t_acts), .int (zi c_t_next), .ref a_t_kept, .ref a_t_isKept, .ref a_t_script, .int (zi c_t_scriptSize), .int (zi c_t_spot), .ref a_t_read, .int (zi c_t_readHigh), .int (zi c_t_readWide), .ref a_t_wanted, .ref a_t_level, .ref a_t_chosen, .ref a_t_best])), (a_t_kept, zI J 486 f_t_kept), (a_t_now, zI J 243 q15)] rfl ?_
        refine z_aload_n (pc' := 55) 0 dX9_restore_54 rfl rfl rfl ?_
        refine z_iconst (pc' := 56) dX9_restore_55 rfl ?_
        refine z_putfield (pc' := 59) (C := RX9) (T := TX9) (N := 20) (ty := .int) 1 6 [(a_t_isKept, zB J 2 f_t_isKept), (a_t, .inr (8, [.int (zi q12.2), .int (zi c_t_high), .int (zi c_t_wide), .ref a_t_now, .ref a_t_trial, .ref a_t_diary, .int (zi (0 : Int)), .int (zi c_t_next), .ref a_t_kept, .ref a_t_isKept, .ref a_t_script, .int (zi c_t_scriptSize), .int (zi c_t_spot), .ref a_t_read, .int (zi c_t_readHigh), .int (zi c_t_readWide), .ref a_t_wanted, .ref a_t_level, .ref a_t_chosen, .ref a_t_best])), (a_t_kept, zI J 486 f_t_kept), (a_t_now, zI J 243 q15)] tyX9 tyX9_ok nmX9 dX9_restore_56 iX9_restore_X9 rfl rfl (by decide) mX9_restore_f69 rfl (by decide +kernel) rfl rfl (Nat.le_of_ble_eq_true rfl) rfl rfl rfl ?_
        refine z_aload_n (pc' := 60) 0 dX9_restore_59 rfl rfl rfl ?_
        refine z_getfield (pc' := 63) (C := RX9) (T := TX9) (N := 20) 1 3 dX9_restore_60 iX9_restore_X9 rfl rfl (by decide) mX9_restore_f16 rfl rfl ?_
        refine z_sipush (pc' := 66) dX9_restore_63 (by decide) rfl ?_
        refine z_iaload (pc' := 67) 3 dX9_restore_66 rfl (by decide) (by decide) rfl ?_
        refine z_perm [(a_t, .inr (8, [.int (zi q12.2), .int (zi c_t_high), .int (zi c_t_wide), .ref a_t_now, .ref a_t_trial, .ref a_t_diary, .int (zi (0 : Int)), .int (zi c_t_next), .ref a_t_kept, .ref a_t_isKept, .ref a_t_script, .int (zi c_t_scriptSize), .int (zi c_t_spot), .ref a_t_read, .int (zi c_t_readHigh), .int (zi c_t_readWide), .ref a_t_wanted, .ref a_t_level, .ref a_t_chosen, .ref a_t_best])), (a_t_now, zI J 243 q15), (a_t_kept, zI J 486 f_t_kept), (a_t_isKept, zB J 2 f_t_isKept)] [(0, .ref a_t), (1, .int (zi p0))] [1, 3, 2, 0] [0, 1] rfl rfl rfl ?_
        cases hsh
        exact z_iret rfl dX9_restore_67 ⟨rfl, rfl⟩
      · replace hsh := zif_f q hsh
        refine z_iconst (pc' := 36) dX9_restore_35 rfl ?_
        refine z_perm [(a_t, .inr (8, [.int (zi q12.2), .int (zi c_t_high), .int (zi c_t_wide), .ref a_t_now, .ref a_t_trial, .ref a_t_diary, .int (zi c_t_acts), .int (zi c_t_next), .ref a_t_kept, .ref a_t_isKept, .ref a_t_script, .int (zi c_t_scriptSize), .int (zi c_t_spot), .ref a_t_read, .int (zi c_t_readHigh), .int (zi c_t_readWide), .ref a_t_wanted, .ref a_t_level, .ref a_t_chosen, .ref a_t_best])), (a_t_now, zI J 243 f_t_now), (a_t_kept, zI J 486 f_t_kept), (a_t_isKept, zB J 2 f_t_isKept)] [(0, .ref a_t), (1, .int (zi p0))] [3, 0, 1, 2] [0, 1] rfl rfl rfl ?_
        cases hsh
        exact z_iret rfl dX9_restore_36 ⟨rfl, rfl⟩
  · replace hsh := zif_t q hsh
    refine z_iconst (pc' := 12) dX9_restore_11 rfl ?_
    refine z_goto (tgt := 29) dX9_restore_12 (by decide) ?_
    obtain ⟨q17, h18, hsh⟩ := zbind hsh
    refine z_callV (pc' := 32) (C := RX9) (As := [.int (zi (1 : Int))]) (rest := []) (wr := [(a_t_now, zI J 243 f_t_now), (a_t_kept, zI J 486 f_t_kept), (a_t_isKept, zB J 2 f_t_isKept)]) 1 (zc_X9_refused l D J F (a_t := a_t) (a_t_now := a_t_now) (a_t_trial := a_t_trial) (a_t_diary := a_t_diary) (a_t_kept := a_t_kept) (a_t_isKept := a_t_isKept) (a_t_script := a_t_script) (a_t_read := a_t_read) (a_t_wanted := a_t_wanted) (a_t_level := a_t_level) (a_t_chosen := a_t_chosen) (a_t_best := a_t_best) (c_t_refusal := c_t_refusal) (c_t_high := c_t_high) (c_t_wide := c_t_wide) (c_t_acts := c_t_acts) (c_t_next := c_t_next) (c_t_scriptSize := c_t_scriptSize) (c_t_spot := c_t_spot) (c_t_readHigh := c_t_readHigh) (c_t_readWide := c_t_readWide) (p0 := (1 : Int))  q17 h18) dX9_restore_29 gX9_restore_X9_refused rfl rfl rfl (by decide +kernel) ⟨Nat.le_of_ble_eq_true rfl, Nat.le_of_ble_eq_true rfl⟩ ⟨Nat.le_of_ble_eq_true rfl, Nat.le_of_ble_eq_true rfl⟩ (z_spl_of [0, 1, 2, 3] rfl rfl) rfl rfl rfl rfl (Nat.le_of_ble_eq_true rfl) rfl (fun rv w9 hq => ?_)
    obtain ⟨rfl, rfl⟩ := hq
    refine z_ws [(a_t_now, zI J 243 f_t_now), (a_t_kept, zI J 486 f_t_kept), (a_t_isKept, zB J 2 f_t_isKept), (a_t, .inr (8, [.int (zi q17.2), .int (zi c_t_high), .int (zi c_t_wide), .ref a_t_now, .ref a_t_trial, .ref a_t_diary, .int (zi c_t_acts), .int (zi c_t_next), .ref a_t_kept, .ref a_t_isKept, .ref a_t_script, .int (zi c_t_scriptSize), .int (zi c_t_spot), .ref a_t_read, .int (zi c_t_readHigh), .int (zi c_t_readWide), .ref a_t_wanted, .ref a_t_level, .ref a_t_chosen, .ref a_t_best]))] rfl ?_
    have g19 := zkr_p hsh
    replace hsh := zkr_k hsh
    refine z_if_eq (pc' := 35) (tgt := 37) dX9_restore_32 (by decide) g19 rfl (fun q => ?_) (fun q => ?_)
    · replace hsh := zif_t q hsh
      refine z_aload_n (pc' := 38) 0 dX9_restore_37 rfl rfl rfl ?_
      refine z_getfield (pc' := 41) (C := RX9) (T := TX9) (N := 20) 3 8 dX9_restore_38 iX9_restore_X9 rfl rfl (by decide) mX9_restore_f26 rfl rfl ?_
      refine z_sipush (pc' := 44) dX9_restore_41 (by decide) rfl ?_
      refine z_iload_n (pc' := 45) 1 dX9_restore_44 rfl rfl rfl ?_
      refine z_imul (pc' := 46) dX9_restore_45 rfl ?_
      refine z_aload_n (pc' := 47) 0 dX9_restore_46 rfl rfl rfl ?_
      refine z_getfield (pc' := 50) (C := RX9) (T := TX9) (N := 20) 3 3 dX9_restore_47 iX9_restore_X9 rfl rfl (by decide) mX9_restore_f16 rfl rfl ?_
      refine z_iconst (pc' := 51) dX9_restore_50 rfl ?_
      obtain ⟨q20, h21, hsh⟩ := zbind hsh
      refine z_callS (pc' := 54) (As := [.ref a_t_kept, .int (zi ((243 : Int) * p0)), .ref a_t_now, .int (zi (0 : Int))]) (rest := []) (wr := [(a_t_isKept, zB J 2 f_t_isKept), (a_t, .inr (8, [.int (zi q17.2), .int (zi c_t_high), .int (zi c_t_wide), .ref a_t_now, .ref a_t_trial, .ref a_t_diary, .int (zi c_t_acts), .int (zi c_t_next), .ref a_t_kept, .ref a_t_isKept, .ref a_t_script, .int (zi c_t_scriptSize), .int (zi c_t_spot), .ref a_t_read, .int (zi c_t_readHigh), .int (zi c_t_readWide), .ref a_t_wanted, .ref a_t_level, .ref a_t_chosen, .ref a_t_best]))]) 4 (zc_X9_copy l D J F (a_p0 := a_t_kept) (a_p2 := a_t_now) (f_p0 := f_t_kept) (f_p2 := f_t_now) (n_p0 := 486) (n_p2 := 243) (p1 := ((243 : Int) * p0)) (p3 := (0 : Int)) (hn_p0 := (by decide)) (hn_p2 := (by decide)) q20 h21) dX9_restore_51 gX9_restore_X9_copy rfl rfl rfl (by decide +kernel) ⟨Nat.le_of_ble_eq_true rfl, Nat.le_of_ble_eq_true rfl⟩ ⟨Nat.le_of_ble_eq_true rfl, Nat.le_of_ble_eq_true rfl⟩ (z_spl_of [1, 0, 2, 3] rfl rfl) rfl rfl (Nat.le_of_ble_eq_true rfl) rfl (fun rv w9 hq => ?_)
      obtain ⟨rfl, rfl⟩ := hq
      refine z_ws [(a_t_isKept, zB J 2 f_t_isKept), (a_t, .inr (8, [.int (zi q17.2), .int (zi c_t_high), .int (zi c_t_wide), .ref a_t_now, .ref a_t_trial, .ref a_t_diary, .int (zi c_t_acts), .int (zi c_t_next), .ref a_t_kept, .ref a_t_isKept, .ref a_t_script, .int (zi c_t_scriptSize), .int (zi c_t_spot), .ref a_t_read, .int (zi c_t_readHigh), .int (zi c_t_readWide), .ref a_t_wanted, .ref a_t_level, .ref a_t_chosen, .ref a_t_best])), (a_t_kept, zI J 486 f_t_kept), (a_t_now, zI J 243 q20)] rfl ?_
      refine z_aload_n (pc' := 55) 0 dX9_restore_54 rfl rfl rfl ?_
      refine z_iconst (pc' := 56) dX9_restore_55 rfl ?_
      refine z_putfield (pc' := 59) (C := RX9) (T := TX9) (N := 20) (ty := .int) 1 6 [(a_t_isKept, zB J 2 f_t_isKept), (a_t, .inr (8, [.int (zi q17.2), .int (zi c_t_high), .int (zi c_t_wide), .ref a_t_now, .ref a_t_trial, .ref a_t_diary, .int (zi (0 : Int)), .int (zi c_t_next), .ref a_t_kept, .ref a_t_isKept, .ref a_t_script, .int (zi c_t_scriptSize), .int (zi c_t_spot), .ref a_t_read, .int (zi c_t_readHigh), .int (zi c_t_readWide), .ref a_t_wanted, .ref a_t_level, .ref a_t_chosen, .ref a_t_best])), (a_t_kept, zI J 486 f_t_kept), (a_t_now, zI J 243 q20)] tyX9 tyX9_ok nmX9 dX9_restore_56 iX9_restore_X9 rfl rfl (by decide) mX9_restore_f69 rfl (by decide +kernel) rfl rfl (Nat.le_of_ble_eq_true rfl) rfl rfl rfl ?_
      refine z_aload_n (pc' := 60) 0 dX9_restore_59 rfl rfl rfl ?_
      refine z_getfield (pc' := 63) (C := RX9) (T := TX9) (N := 20) 1 3 dX9_restore_60 iX9_restore_X9 rfl rfl (by decide) mX9_restore_f16 rfl rfl ?_
      refine z_sipush (pc' := 66) dX9_restore_63 (by decide) rfl ?_
      refine z_iaload (pc' := 67) 3 dX9_restore_66 rfl (by decide) (by decide) rfl ?_
      refine z_perm [(a_t, .inr (8, [.int (zi q17.2), .int (zi c_t_high), .int (zi c_t_wide), .ref a_t_now, .ref a_t_trial, .ref a_t_diary, .int (zi (0 : Int)), .int (zi c_t_next), .ref a_t_kept, .ref a_t_isKept, .ref a_t_script, .int (zi c_t_scriptSize), .int (zi c_t_spot), .ref a_t_read, .int (zi c_t_readHigh), .int (zi c_t_readWide), .ref a_t_wanted, .ref a_t_level, .ref a_t_chosen, .ref a_t_best])), (a_t_now, zI J 243 q20), (a_t_kept, zI J 486 f_t_kept), (a_t_isKept, zB J 2 f_t_isKept)] [(0, .ref a_t), (1, .int (zi p0))] [1, 3, 2, 0] [0, 1] rfl rfl rfl ?_
      cases hsh
      exact z_iret rfl dX9_restore_67 ⟨rfl, rfl⟩
    · replace hsh := zif_f q hsh
      refine z_iconst (pc' := 36) dX9_restore_35 rfl ?_
      refine z_perm [(a_t, .inr (8, [.int (zi q17.2), .int (zi c_t_high), .int (zi c_t_wide), .ref a_t_now, .ref a_t_trial, .ref a_t_diary, .int (zi c_t_acts), .int (zi c_t_next), .ref a_t_kept, .ref a_t_isKept, .ref a_t_script, .int (zi c_t_scriptSize), .int (zi c_t_spot), .ref a_t_read, .int (zi c_t_readHigh), .int (zi c_t_readWide), .ref a_t_wanted, .ref a_t_level, .ref a_t_chosen, .ref a_t_best])), (a_t_now, zI J 243 f_t_now), (a_t_kept, zI J 486 f_t_kept), (a_t_isKept, zB J 2 f_t_isKept)] [(0, .ref a_t), (1, .int (zi p0))] [3, 0, 1, 2] [0, 1] rfl rfl rfl ?_
      cases hsh
      exact z_iret rfl dX9_restore_36 ⟨rfl, rfl⟩
