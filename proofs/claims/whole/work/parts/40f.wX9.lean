def sh_X9_fewest_L2 (F : Nat) (p0 : Int) (p1 : Int) (c_t_high : Int) (c_t_wide : Int) (f_t_now : Nat → Int) (k : Int → (Nat → Int) → Option (Int × (Nat → Int))) : Nat → Int → (Nat → Int) → Option (Int × (Nat → Int))
  | 0, _, _ => none
  | N + 1, v4, v5 => (sh_X9_points F c_t_high c_t_wide).bind (fun (q6 : Int) => zkr v4 (zkr q6 (if v4 < q6 then zkx (((15 : Int) * v4) + (0 : Int)) 243 (zkr p0 (if v4 = p0 then zkx v4 16 (sh_X9_fewest_L2 F p0 p1 c_t_high c_t_wide f_t_now k N (v4 + (1 : Int)) (va_up v5 (v4).toNat ((f_t_now ((((15 : Int) * v4) + (0 : Int))).toNat) + p1))) else zkx v4 16 (sh_X9_fewest_L2 F p0 p1 c_t_high c_t_wide f_t_now k N (v4 + (1 : Int)) (va_up v5 (v4).toNat ((f_t_now ((((15 : Int) * v4) + (0 : Int))).toNat) + (0 : Int)))))) else k v4 v5)))
def sh_X9_fewest_L67 (F : Nat) (c_t_high : Int) (c_t_wide : Int) (f_t_now : Nat → Int) (v28 : Int) (k : Int → Int → (Nat → Int) → Option (Int × (Nat → Int))) : Nat → Int → Int → (Nat → Int) → Option (Int × (Nat → Int))
  | 0, _, _, _ => none
  | N + 1, v39, v40, v41 => (sh_X9_points F c_t_high c_t_wide).bind (fun (q42 : Int) => zkr v40 (zkr q42 (if v40 < q42 then (sh_X9_areBeside F c_t_wide v28 v40).bind (fun (q46 : Int) => zkr q46 (if q46 = (0 : Int) then sh_X9_fewest_L67 F c_t_high c_t_wide f_t_now v28 k N v39 (v40 + (1 : Int)) v41 else zkx v40 16 (zkx v28 16 (zkr (v41 (v40).toNat) (zkr ((v41 (v28).toNat) - (f_t_now ((240 : Int)).toNat)) (if (v41 (v40).toNat) < ((v41 (v28).toNat) - (f_t_now ((240 : Int)).toNat)) then sh_X9_fewest_L67 F c_t_high c_t_wide f_t_now v28 k N (1 : Int) (v40 + (1 : Int)) (va_up v41 (v40).toNat ((v41 (v28).toNat) - (f_t_now ((240 : Int)).toNat))) else sh_X9_fewest_L67 F c_t_high c_t_wide f_t_now v28 k N v39 (v40 + (1 : Int)) v41)))))) else k v39 v40 v41)))
def sh_X9_fewest_L55 (F : Nat) (c_t_high : Int) (c_t_wide : Int) (f_t_now : Nat → Int) (k : Int → Int → (Nat → Int) → Option (Int × (Nat → Int))) : Nat → Int → Int → (Nat → Int) → Option (Int × (Nat → Int))
  | 0, _, _, _ => none
  | N + 1, v27, v28, v29 => (sh_X9_points F c_t_high c_t_wide).bind (fun (q30 : Int) => zkr v28 (zkr q30 (if v28 < q30 then sh_X9_fewest_L67 F c_t_high c_t_wide f_t_now v28 (fun (v53 : Int) (v54 : Int) (v55 : (Nat → Int)) => sh_X9_fewest_L55 F c_t_high c_t_wide f_t_now k N v53 (v28 + (1 : Int)) v55) F v27 (0 : Int) v29 else k v27 v28 v29)))
def sh_X9_fewest_L46 (F : Nat) (c_t_high : Int) (c_t_wide : Int) (f_t_now : Nat → Int) (k : Int → (Nat → Int) → Option (Int × (Nat → Int))) : Nat → Int → (Nat → Int) → Option (Int × (Nat → Int))
  | 0, _, _ => none
  | N + 1, v19, v20 => zkr v19 (if v19 = (0 : Int) then k v19 v20 else sh_X9_fewest_L55 F c_t_high c_t_wide f_t_now (fun (v56 : Int) (v57 : Int) (v58 : (Nat → Int)) => sh_X9_fewest_L46 F c_t_high c_t_wide f_t_now k N v56 v58) F (0 : Int) (0 : Int) v20)
def sh_X9_fewest_L162 (F : Nat) (c_t_high : Int) (c_t_wide : Int) (f_t_now : Nat → Int) (v60 : (Nat → Int)) (k : Int → Int → Int → Option (Int × (Nat → Int))) : Nat → Int → Int → Int → Option (Int × (Nat → Int))
  | 0, _, _, _ => none
  | N + 1, v64, v65, v66 => (sh_X9_points F c_t_high c_t_wide).bind (fun (q67 : Int) => zkr v66 (zkr q67 (if v66 < q67 then zkx v66 16 (zkx (((15 : Int) * v66) + (0 : Int)) 243 (zkr v65 (if v65 = (0 : Int) then sh_X9_fewest_L162 F c_t_high c_t_wide f_t_now v60 k N (v64 + ((v60 (v66).toNat) - (f_t_now ((((15 : Int) * v66) + (0 : Int))).toNat))) (0 : Int) (v66 + (1 : Int)) else zkr ((v60 (v66).toNat) - (f_t_now ((((15 : Int) * v66) + (0 : Int))).toNat)) (if ((v60 (v66).toNat) - (f_t_now ((((15 : Int) * v66) + (0 : Int))).toNat)) = (0 : Int) then sh_X9_fewest_L162 F c_t_high c_t_wide f_t_now v60 k N (v64 + ((v60 (v66).toNat) - (f_t_now ((((15 : Int) * v66) + (0 : Int))).toNat))) (1 : Int) (v66 + (1 : Int)) else zkx (((15 : Int) * v66) + (1 : Int)) 243 (zkr (f_t_now ((((15 : Int) * v66) + (1 : Int))).toNat) (if (f_t_now ((((15 : Int) * v66) + (1 : Int))).toNat) = (0 : Int) then (sh_X9_remainingOf F f_t_now 243 (0 : Int) v66).bind (fun (q77 : Int) => zkr q77 (if q77 < ((v60 (v66).toNat) - (f_t_now ((((15 : Int) * v66) + (0 : Int))).toNat)) then sh_X9_fewest_L162 F c_t_high c_t_wide f_t_now v60 k N (v64 + ((v60 (v66).toNat) - (f_t_now ((((15 : Int) * v66) + (0 : Int))).toNat))) (0 : Int) (v66 + (1 : Int)) else sh_X9_fewest_L162 F c_t_high c_t_wide f_t_now v60 k N (v64 + ((v60 (v66).toNat) - (f_t_now ((((15 : Int) * v66) + (0 : Int))).toNat))) (1 : Int) (v66 + (1 : Int)))) else sh_X9_fewest_L162 F c_t_high c_t_wide f_t_now v60 k N (v64 + ((v60 (v66).toNat) - (f_t_now ((((15 : Int) * v66) + (0 : Int))).toNat))) (0 : Int) (v66 + (1 : Int)))))))) else k v64 v65 v66)))
def sh_X9_fewest (F : Nat) (c_t_high : Int) (c_t_wide : Int) (f_t_now : Nat → Int) (f_t_wanted : Nat → Int) (p0 : Int) (p1 : Int) : Option (Int × (Nat → Int)) := sh_X9_fewest_L2 F p0 p1 c_t_high c_t_wide f_t_now (fun (v14 : Int) (v15 : (Nat → Int)) => sh_X9_fewest_L46 F c_t_high c_t_wide f_t_now (fun (v59 : Int) (v60 : (Nat → Int)) => sh_X9_fewest_L162 F c_t_high c_t_wide f_t_now v60 (fun (v80 : Int) (v81 : Int) (v82 : Int) => zkr v81 (if v81 = (0 : Int) then some ((-9 : Int), v60) else some (v80, v60))) F (0 : Int) (1 : Int) (0 : Int)) F (1 : Int) v15) F (0 : Int) f_t_wanted
theorem mX9_fewest_f39 : Cond.fieldLink RX9 39 (TX9 16).1 (TX9 16).2.1 (TX9 16).2.2.1 ∈ wsX9_fewest := List.mem_of_getElem? (i := 1) rfl
theorem iX9_fewest_X9 : ∀ w ∈ wsX90, w ∈ wsX9_fewest := fun _ h => (List.mem_cons_of_mem _ (List.mem_append_right _ h))
theorem mX9_fewest_f16 : Cond.fieldLink RX9 16 (TX9 3).1 (TX9 3).2.1 (TX9 3).2.2.1 ∈ wsX9_fewest := List.mem_of_getElem? (i := 2) rfl
set_option maxRecDepth 100000 in
set_option maxHeartbeats 4000000 in
theorem zl_X9_fewest_L2 {p : Program} {l : Launch} {e : Env} {s : State} {m : MethodId} {args : Array Value} {below : List Frame} {meth : Method} {c : Code} {A : Nat → Prop} {D : va_G} {J : Nat → ClassId} {F : Nat} {p0 : Int} {p1 : Int} {c_t_high : Int} {c_t_wide : Int} {f_t_now : Nat → Int} {a_t : Nat} {c_t_refusal : Int} {a_t_now : Nat} {a_t_trial : Nat} {a_t_diary : Nat} {c_t_acts : Int} {c_t_next : Int} {a_t_kept : Nat} {a_t_isKept : Nat} {a_t_script : Nat} {c_t_scriptSize : Int} {c_t_spot : Int} {a_t_read : Nat} {c_t_readHigh : Int} {c_t_readWide : Int} {a_t_wanted : Nat} {a_t_level : Nat} {a_t_chosen : Nat} {a_t_best : Nat} {res : Int × (Nat → Int)} {k : Int → (Nat → Int) → Option (Int × (Nat → Int))} (hk : ∀ (v4' : Int) (v5' : (Nat → Int)), k v4' v5' = some res → Z p l e ({ frames := 1, cells := 0, slots := 0, locals := 24 } : Room) s m args below meth c (MQ below (zQ D J A (fun rv w9 => rv = some (.int (zi res.1)) ∧ w9 = [(a_t, .inr (8, [.int (zi c_t_refusal), .int (zi c_t_high), .int (zi c_t_wide), .ref a_t_now, .ref a_t_trial, .ref a_t_diary, .int (zi c_t_acts), .int (zi c_t_next), .ref a_t_kept, .ref a_t_isKept, .ref a_t_script, .int (zi c_t_scriptSize), .int (zi c_t_spot), .ref a_t_read, .int (zi c_t_readHigh), .int (zi c_t_readWide), .ref a_t_wanted, .ref a_t_level, .ref a_t_chosen, .ref a_t_best])), (a_t_now, zI J 243 f_t_now), (a_t_wanted, zI J 16 res.2)])) args s 0 0 A) cX9_fewest 8 wsX9_fewest RX9 D J A (some .int) (yX9_fewest.name, []) 0 0 [(a_t, .inr (8, [.int (zi c_t_refusal), .int (zi c_t_high), .int (zi c_t_wide), .ref a_t_now, .ref a_t_trial, .ref a_t_diary, .int (zi c_t_acts), .int (zi c_t_next), .ref a_t_kept, .ref a_t_isKept, .ref a_t_script, .int (zi c_t_scriptSize), .int (zi c_t_spot), .ref a_t_read, .int (zi c_t_readHigh), .int (zi c_t_readWide), .ref a_t_wanted, .ref a_t_level, .ref a_t_chosen, .ref a_t_best])), (a_t_now, zI J 243 f_t_now), (a_t_wanted, zI J 16 v5')] [(0, .ref a_t)] 44 []) : ∀ (N : Nat) (v4 : Int) (v5 : (Nat → Int)), sh_X9_fewest_L2 F p0 p1 c_t_high c_t_wide f_t_now k N v4 v5 = some res → Z p l e ({ frames := 1, cells := 0, slots := 0, locals := 24 } : Room) s m args below meth c (MQ below (zQ D J A (fun rv w9 => rv = some (.int (zi res.1)) ∧ w9 = [(a_t, .inr (8, [.int (zi c_t_refusal), .int (zi c_t_high), .int (zi c_t_wide), .ref a_t_now, .ref a_t_trial, .ref a_t_diary, .int (zi c_t_acts), .int (zi c_t_next), .ref a_t_kept, .ref a_t_isKept, .ref a_t_script, .int (zi c_t_scriptSize), .int (zi c_t_spot), .ref a_t_read, .int (zi c_t_readHigh), .int (zi c_t_readWide), .ref a_t_wanted, .ref a_t_level, .ref a_t_chosen, .ref a_t_best])), (a_t_now, zI J 243 f_t_now), (a_t_wanted, zI J 16 res.2)])) args s 0 0 A) cX9_fewest 8 wsX9_fewest RX9 D J A (some .int) (yX9_fewest.name, []) 0 0 [(a_t, .inr (8, [.int (zi c_t_refusal), .int (zi c_t_high), .int (zi c_t_wide), .ref a_t_now, .ref a_t_trial, .ref a_t_diary, .int (zi c_t_acts), .int (zi c_t_next), .ref a_t_kept, .ref a_t_isKept, .ref a_t_script, .int (zi c_t_scriptSize), .int (zi c_t_spot), .ref a_t_read, .int (zi c_t_readHigh), .int (zi c_t_readWide), .ref a_t_wanted, .ref a_t_level, .ref a_t_chosen, .ref a_t_best])), (a_t_now, zI J 243 f_t_now), (a_t_wanted, zI J 16 v5)] [(0, .ref a_t), (1, .int (zi p0)), (2, .int (zi p1)), (3, .int (zi v4))] 2 [] := by
  intro N
  induction N with
  | zero =>
    intro v4 v5 hsh
    exact absurd hsh (by simp [sh_X9_fewest_L2])
  | succ N ih =>
    intro v4 v5 hsh
    rw [sh_X9_fewest_L2] at hsh
    refine z_iload_n (pc' := 3) 3 dX9_fewest_2 rfl rfl rfl ?_
    refine z_aload_n (pc' := 4) 0 dX9_fewest_3 rfl rfl rfl ?_
    obtain ⟨q6, h7, hsh⟩ := zbind hsh
    refine z_callV (pc' := 7) (C := RX9) (As := []) (rest := [.int (zi v4)]) (wr := [(a_t_now, zI J 243 f_t_now), (a_t_wanted, zI J 16 v5)]) 0 (zc_X9_points l D J F (a_t := a_t) (a_t_now := a_t_now) (a_t_trial := a_t_trial) (a_t_diary := a_t_diary) (a_t_kept := a_t_kept) (a_t_isKept := a_t_isKept) (a_t_script := a_t_script) (a_t_read := a_t_read) (a_t_wanted := a_t_wanted) (a_t_level := a_t_level) (a_t_chosen := a_t_chosen) (a_t_best := a_t_best) (c_t_refusal := c_t_refusal) (c_t_high := c_t_high) (c_t_wide := c_t_wide) (c_t_acts := c_t_acts) (c_t_next := c_t_next) (c_t_scriptSize := c_t_scriptSize) (c_t_spot := c_t_spot) (c_t_readHigh := c_t_readHigh) (c_t_readWide := c_t_readWide)  q6 h7) dX9_fewest_4 gX9_fewest_X9_points rfl rfl rfl (by decide +kernel) ⟨Nat.le_of_ble_eq_true rfl, Nat.le_of_ble_eq_true rfl⟩ ⟨Nat.le_of_ble_eq_true rfl, Nat.le_of_ble_eq_true rfl⟩ (z_spl_of [0, 1, 2] rfl rfl) rfl rfl rfl rfl (Nat.le_of_ble_eq_true rfl) rfl (fun rv w9 hq => ?_)
    obtain ⟨rfl, rfl⟩ := hq
    refine z_ws [(a_t_now, zI J 243 f_t_now), (a_t_wanted, zI J 16 v5), (a_t, .inr (8, [.int (zi c_t_refusal), .int (zi c_t_high), .int (zi c_t_wide), .ref a_t_now, .ref a_t_trial, .ref a_t_diary, .int (zi c_t_acts), .int (zi c_t_next), .ref a_t_kept, .ref a_t_isKept, .ref a_t_script, .int (zi c_t_scriptSize), .int (zi c_t_spot), .ref a_t_read, .int (zi c_t_readHigh), .int (zi c_t_readWide), .ref a_t_wanted, .ref a_t_level, .ref a_t_chosen, .ref a_t_best]))] rfl ?_
    have g8 := zkr_p hsh
    replace hsh := zkr_k hsh
    have g9 := zkr_p hsh
    replace hsh := zkr_k hsh
    refine z_icmp_ge (pc' := 10) (tgt := 44) dX9_fewest_7 (by decide) g8 g9 rfl (fun q => ?_) (fun q => ?_)
    · replace hsh := zif_f q hsh
      refine z_perm [(a_t, .inr (8, [.int (zi c_t_refusal), .int (zi c_t_high), .int (zi c_t_wide), .ref a_t_now, .ref a_t_trial, .ref a_t_diary, .int (zi c_t_acts), .int (zi c_t_next), .ref a_t_kept, .ref a_t_isKept, .ref a_t_script, .int (zi c_t_scriptSize), .int (zi c_t_spot), .ref a_t_read, .int (zi c_t_readHigh), .int (zi c_t_readWide), .ref a_t_wanted, .ref a_t_level, .ref a_t_chosen, .ref a_t_best])), (a_t_now, zI J 243 f_t_now), (a_t_wanted, zI J 16 v5)] [(0, .ref a_t)] [2, 0, 1] [0] rfl rfl rfl ?_
      exact hk _ _ hsh
    · replace hsh := zif_t q hsh
      refine z_aload_n (pc' := 11) 0 dX9_fewest_10 rfl rfl rfl ?_
      refine z_getfield (pc' := 14) (C := RX9) (T := TX9) (N := 20) 2 16 dX9_fewest_11 iX9_fewest_X9 rfl rfl (by decide) mX9_fewest_f39 rfl rfl ?_
      refine z_iload_n (pc' := 15) 3 dX9_fewest_14 rfl rfl rfl ?_
      refine z_aload_n (pc' := 16) 0 dX9_fewest_15 rfl rfl rfl ?_
      refine z_getfield (pc' := 19) (C := RX9) (T := TX9) (N := 20) 2 3 dX9_fewest_16 iX9_fewest_X9 rfl rfl (by decide) mX9_fewest_f16 rfl rfl ?_
      refine z_bipush (pc' := 21) dX9_fewest_19 (by decide) rfl ?_
      refine z_iload_n (pc' := 22) 3 dX9_fewest_21 rfl rfl rfl ?_
      refine z_imul (pc' := 23) dX9_fewest_22 rfl ?_
      refine z_iconst (pc' := 24) dX9_fewest_23 rfl ?_
      refine z_iadd (pc' := 25) dX9_fewest_24 rfl ?_
      have g10 := zkx_p hsh
      replace hsh := zkx_k hsh
      refine z_iaload (pc' := 26) 0 dX9_fewest_25 rfl (by decide) g10 rfl ?_
      refine z_iload_n (pc' := 27) 3 dX9_fewest_26 rfl rfl rfl ?_
      refine z_iload_n (pc' := 28) 1 dX9_fewest_27 rfl rfl rfl ?_
      have g11 := zkr_p hsh
      replace hsh := zkr_k hsh
      refine z_icmp_ne (pc' := 31) (tgt := 35) dX9_fewest_28 (by decide) g8 g11 rfl (fun q => ?_) (fun q => ?_)
      · replace hsh := zif_f q hsh
        refine z_iconst (pc' := 36) dX9_fewest_35 rfl ?_
        refine z_iadd (pc' := 37) dX9_fewest_36 rfl ?_
        have g12 := zkx_p hsh
        replace hsh := zkx_k hsh
        refine z_iastore (pc' := 38) 1 [(a_t_now, zI J 243 f_t_now), (a_t_wanted, zI J 16 (va_up v5 (v4).toNat ((f_t_now ((((15 : Int) * v4) + (0 : Int))).toNat) + (0 : Int)))), (a_t, .inr (8, [.int (zi c_t_refusal), .int (zi c_t_high), .int (zi c_t_wide), .ref a_t_now, .ref a_t_trial, .ref a_t_diary, .int (zi c_t_acts), .int (zi c_t_next), .ref a_t_kept, .ref a_t_isKept, .ref a_t_script, .int (zi c_t_scriptSize), .int (zi c_t_spot), .ref a_t_read, .int (zi c_t_readHigh), .int (zi c_t_readWide), .ref a_t_wanted, .ref a_t_level, .ref a_t_chosen, .ref a_t_best]))] dX9_fewest_37 rfl (by decide) g12 rfl rfl ?_
        refine z_iinc (pc' := 41) [(3, .int (zi (v4 + (1 : Int)))), (0, .ref a_t), (1, .int (zi p0)), (2, .int (zi p1))] 3 dX9_fewest_38 rfl (by decide) rfl rfl ?_
        refine z_goto (tgt := 2) dX9_fewest_41 (by decide) ?_
        refine z_perm [(a_t, .inr (8, [.int (zi c_t_refusal), .int (zi c_t_high), .int (zi c_t_wide), .ref a_t_now, .ref a_t_trial, .ref a_t_diary, .int (zi c_t_acts), .int (zi c_t_next), .ref a_t_kept, .ref a_t_isKept, .ref a_t_script, .int (zi c_t_scriptSize), .int (zi c_t_spot), .ref a_t_read, .int (zi c_t_readHigh), .int (zi c_t_readWide), .ref a_t_wanted, .ref a_t_level, .ref a_t_chosen, .ref a_t_best])), (a_t_now, zI J 243 f_t_now), (a_t_wanted, zI J 16 (va_up v5 (v4).toNat ((f_t_now ((((15 : Int) * v4) + (0 : Int))).toNat) + (0 : Int))))] [(0, .ref a_t), (1, .int (zi p0)), (2, .int (zi p1)), (3, .int (zi (v4 + (1 : Int))))] [2, 0, 1] [1, 2, 3, 0] rfl rfl rfl ?_
        exact ih _ _ hsh
      · replace hsh := zif_t q hsh
        refine z_iload_n (pc' := 32) 2 dX9_fewest_31 rfl rfl rfl ?_
        refine z_goto (tgt := 36) dX9_fewest_32 (by decide) ?_
        refine z_iadd (pc' := 37) dX9_fewest_36 rfl ?_
        have g13 := zkx_p hsh
        replace hsh := zkx_k hsh
        refine z_iastore (pc' := 38) 1 [(a_t_now, zI J 243 f_t_now), (a_t_wanted, zI J 16 (va_up v5 (v4).toNat ((f_t_now ((((15 : Int) * v4) + (0 : Int))).toNat) + p1))), (a_t, .inr (8, [.int (zi c_t_refusal), .int (zi c_t_high), .int (zi c_t_wide), .ref a_t_now, .ref a_t_trial, .ref a_t_diary, .int (zi c_t_acts), .int (zi c_t_next), .ref a_t_kept, .ref a_t_isKept, .ref a_t_script, .int (zi c_t_scriptSize), .int (zi c_t_spot), .ref a_t_read, .int (zi c_t_readHigh), .int (zi c_t_readWide), .ref a_t_wanted, .ref a_t_level, .ref a_t_chosen, .ref a_t_best]))] dX9_fewest_37 rfl (by decide) g13 rfl rfl ?_
        refine z_iinc (pc' := 41) [(3, .int (zi (v4 + (1 : Int)))), (0, .ref a_t), (1, .int (zi p0)), (2, .int (zi p1))] 3 dX9_fewest_38 rfl (by decide) rfl rfl ?_
        refine z_goto (tgt := 2) dX9_fewest_41 (by decide) ?_
        refine z_perm [(a_t, .inr (8, [.int (zi c_t_refusal), .int (zi c_t_high), .int (zi c_t_wide), .ref a_t_now, .ref a_t_trial, .ref a_t_diary, .int (zi c_t_acts), .int (zi c_t_next), .ref a_t_kept, .ref a_t_isKept, .ref a_t_script, .int (zi c_t_scriptSize), .int (zi c_t_spot), .ref a_t_read, .int (zi c_t_readHigh), .int (zi c_t_readWide), .ref a_t_wanted, .ref a_t_level, .ref a_t_chosen, .ref a_t_best])), (a_t_now, zI J 243 f_t_now), (a_t_wanted, zI J 16 (va_up v5 (v4).toNat ((f_t_now ((((15 : Int) * v4) + (0 : Int))).toNat) + p1)))] [(0, .ref a_t), (1, .int (zi p0)), (2, .int (zi p1)), (3, .int (zi (v4 + (1 : Int))))] [2, 0, 1] [1, 2, 3, 0] rfl rfl rfl ?_
        exact ih _ _ hsh
set_option maxRecDepth 100000 in
set_option maxHeartbeats 4000000 in
theorem zl_X9_fewest_L67 {p : Program} {l : Launch} {e : Env} {s : State} {m : MethodId} {args : Array Value} {below : List Frame} {meth : Method} {c : Code} {A : Nat → Prop} {D : va_G} {J : Nat → ClassId} {F : Nat} {c_t_high : Int} {c_t_wide : Int} {f_t_now : Nat → Int} {v28 : Int} {a_t : Nat} {c_t_refusal : Int} {a_t_now : Nat} {a_t_trial : Nat} {a_t_diary : Nat} {c_t_acts : Int} {c_t_next : Int} {a_t_kept : Nat} {a_t_isKept : Nat} {a_t_script : Nat} {c_t_scriptSize : Int} {c_t_spot : Int} {a_t_read : Nat} {c_t_readHigh : Int} {c_t_readWide : Int} {a_t_wanted : Nat} {a_t_level : Nat} {a_t_chosen : Nat} {a_t_best : Nat} {res : Int × (Nat → Int)} {k : Int → Int → (Nat → Int) → Option (Int × (Nat → Int))} (hk : ∀ (v39' : Int) (v40' : Int) (v41' : (Nat → Int)), k v39' v40' v41' = some res → Z p l e ({ frames := 1, cells := 0, slots := 0, locals := 24 } : Room) s m args below meth c (MQ below (zQ D J A (fun rv w9 => rv = some (.int (zi res.1)) ∧ w9 = [(a_t, .inr (8, [.int (zi c_t_refusal), .int (zi c_t_high), .int (zi c_t_wide), .ref a_t_now, .ref a_t_trial, .ref a_t_diary, .int (zi c_t_acts), .int (zi c_t_next), .ref a_t_kept, .ref a_t_isKept, .ref a_t_script, .int (zi c_t_scriptSize), .int (zi c_t_spot), .ref a_t_read, .int (zi c_t_readHigh), .int (zi c_t_readWide), .ref a_t_wanted, .ref a_t_level, .ref a_t_chosen, .ref a_t_best])), (a_t_now, zI J 243 f_t_now), (a_t_wanted, zI J 16 res.2)])) args s 0 0 A) cX9_fewest 8 wsX9_fewest RX9 D J A (some .int) (yX9_fewest.name, []) 0 0 [(a_t, .inr (8, [.int (zi c_t_refusal), .int (zi c_t_high), .int (zi c_t_wide), .ref a_t_now, .ref a_t_trial, .ref a_t_diary, .int (zi c_t_acts), .int (zi c_t_next), .ref a_t_kept, .ref a_t_isKept, .ref a_t_script, .int (zi c_t_scriptSize), .int (zi c_t_spot), .ref a_t_read, .int (zi c_t_readHigh), .int (zi c_t_readWide), .ref a_t_wanted, .ref a_t_level, .ref a_t_chosen, .ref a_t_best])), (a_t_now, zI J 243 f_t_now), (a_t_wanted, zI J 16 v41')] [(0, .ref a_t), (3, .int (zi v39')), (4, .int (zi v28))] 144 []) : ∀ (N : Nat) (v39 : Int) (v40 : Int) (v41 : (Nat → Int)), sh_X9_fewest_L67 F c_t_high c_t_wide f_t_now v28 k N v39 v40 v41 = some res → Z p l e ({ frames := 1, cells := 0, slots := 0, locals := 24 } : Room) s m args below meth c (MQ below (zQ D J A (fun rv w9 => rv = some (.int (zi res.1)) ∧ w9 = [(a_t, .inr (8, [.int (zi c_t_refusal), .int (zi c_t_high), .int (zi c_t_wide), .ref a_t_now, .ref a_t_trial, .ref a_t_diary, .int (zi c_t_acts), .int (zi c_t_next), .ref a_t_kept, .ref a_t_isKept, .ref a_t_script, .int (zi c_t_scriptSize), .int (zi c_t_spot), .ref a_t_read, .int (zi c_t_readHigh), .int (zi c_t_readWide), .ref a_t_wanted, .ref a_t_level, .ref a_t_chosen, .ref a_t_best])), (a_t_now, zI J 243 f_t_now), (a_t_wanted, zI J 16 res.2)])) args s 0 0 A) cX9_fewest 8 wsX9_fewest RX9 D J A (some .int) (yX9_fewest.name, []) 0 0 [(a_t, .inr (8, [.int (zi c_t_refusal), .int (zi c_t_high), .int (zi c_t_wide), .ref a_t_now, .ref a_t_trial, .ref a_t_diary, .int (zi c_t_acts), .int (zi c_t_next), .ref a_t_kept, .ref a_t_isKept, .ref a_t_script, .int (zi c_t_scriptSize), .int (zi c_t_spot), .ref a_t_read, .int (zi c_t_readHigh), .int (zi c_t_readWide), .ref a_t_wanted, .ref a_t_level, .ref a_t_chosen, .ref a_t_best])), (a_t_now, zI J 243 f_t_now), (a_t_wanted, zI J 16 v41)] [(0, .ref a_t), (3, .int (zi v39)), (4, .int (zi v28)), (5, .int (zi v40))] 67 [] := by
  intro N
  induction N with
  | zero =>
    intro v39 v40 v41 hsh
    exact absurd hsh (by simp [sh_X9_fewest_L67])
  | succ N ih =>
    intro v39 v40 v41 hsh
    rw [sh_X9_fewest_L67] at hsh
    refine z_iload (pc' := 69) 3 dX9_fewest_67 rfl rfl ?_
    refine z_aload_n (pc' := 70) 0 dX9_fewest_69 rfl rfl rfl ?_
    obtain ⟨q42, h43, hsh⟩ := zbind hsh
    refine z_callV (pc' := 73) (C := RX9) (As := []) (rest := [.int (zi v40)]) (wr := [(a_t_now, zI J 243 f_t_now), (a_t_wanted, zI J 16 v41)]) 0 (zc_X9_points l D J F (a_t := a_t) (a_t_now := a_t_now) (a_t_trial := a_t_trial) (a_t_diary := a_t_diary) (a_t_kept := a_t_kept) (a_t_isKept := a_t_isKept) (a_t_script := a_t_script) (a_t_read := a_t_read) (a_t_wanted := a_t_wanted) (a_t_level := a_t_level) (a_t_chosen := a_t_chosen) (a_t_best := a_t_best) (c_t_refusal := c_t_refusal) (c_t_high := c_t_high) (c_t_wide := c_t_wide) (c_t_acts := c_t_acts) (c_t_next := c_t_next) (c_t_scriptSize := c_t_scriptSize) (c_t_spot := c_t_spot) (c_t_readHigh := c_t_readHigh) (c_t_readWide := c_t_readWide)  q42 h43) dX9_fewest_70 gX9_fewest_X9_points rfl rfl rfl (by decide +kernel) ⟨Nat.le_of_ble_eq_true rfl, Nat.le_of_ble_eq_true rfl⟩ ⟨Nat.le_of_ble_eq_true rfl, Nat.le_of_ble_eq_true rfl⟩ (z_spl_of [0, 1, 2] rfl rfl) rfl rfl rfl rfl (Nat.le_of_ble_eq_true rfl) rfl (fun rv w9 hq => ?_)
    obtain ⟨rfl, rfl⟩ := hq
    refine z_ws [(a_t_now, zI J 243 f_t_now), (a_t_wanted, zI J 16 v41), (a_t, .inr (8, [.int (zi c_t_refusal), .int (zi c_t_high), .int (zi c_t_wide), .ref a_t_now, .ref a_t_trial, .ref a_t_diary, .int (zi c_t_acts), .int (zi c_t_next), .ref a_t_kept, .ref a_t_isKept, .ref a_t_script, .int (zi c_t_scriptSize), .int (zi c_t_spot), .ref a_t_read, .int (zi c_t_readHigh), .int (zi c_t_readWide), .ref a_t_wanted, .ref a_t_level, .ref a_t_chosen, .ref a_t_best]))] rfl ?_
    have g44 := zkr_p hsh
    replace hsh := zkr_k hsh
    have g45 := zkr_p hsh
    replace hsh := zkr_k hsh
    refine z_icmp_ge (pc' := 76) (tgt := 144) dX9_fewest_73 (by decide) g44 g45 rfl (fun q => ?_) (fun q => ?_)
    · replace hsh := zif_f q hsh
      refine z_perm [(a_t, .inr (8, [.int (zi c_t_refusal), .int (zi c_t_high), .int (zi c_t_wide), .ref a_t_now, .ref a_t_trial, .ref a_t_diary, .int (zi c_t_acts), .int (zi c_t_next), .ref a_t_kept, .ref a_t_isKept, .ref a_t_script, .int (zi c_t_scriptSize), .int (zi c_t_spot), .ref a_t_read, .int (zi c_t_readHigh), .int (zi c_t_readWide), .ref a_t_wanted, .ref a_t_level, .ref a_t_chosen, .ref a_t_best])), (a_t_now, zI J 243 f_t_now), (a_t_wanted, zI J 16 v41)] [(0, .ref a_t), (3, .int (zi v39)), (4, .int (zi v28))] [2, 0, 1] [0, 1, 2] rfl rfl rfl ?_
      exact hk _ _ _ hsh
    · replace hsh := zif_t q hsh
      refine z_aload_n (pc' := 77) 0 dX9_fewest_76 rfl rfl rfl ?_
      refine z_iload (pc' := 79) 2 dX9_fewest_77 rfl rfl ?_
      refine z_iload (pc' := 81) 3 dX9_fewest_79 rfl rfl ?_
      obtain ⟨q46, h47, hsh⟩ := zbind hsh
      refine z_callV (pc' := 84) (C := RX9) (As := [.int (zi v28), .int (zi v40)]) (rest := []) (wr := [(a_t_now, zI J 243 f_t_now), (a_t_wanted, zI J 16 v41)]) 2 (zc_X9_areBeside l D J F (a_t := a_t) (a_t_now := a_t_now) (a_t_trial := a_t_trial) (a_t_diary := a_t_diary) (a_t_kept := a_t_kept) (a_t_isKept := a_t_isKept) (a_t_script := a_t_script) (a_t_read := a_t_read) (a_t_wanted := a_t_wanted) (a_t_level := a_t_level) (a_t_chosen := a_t_chosen) (a_t_best := a_t_best) (c_t_refusal := c_t_refusal) (c_t_high := c_t_high) (c_t_wide := c_t_wide) (c_t_acts := c_t_acts) (c_t_next := c_t_next) (c_t_scriptSize := c_t_scriptSize) (c_t_spot := c_t_spot) (c_t_readHigh := c_t_readHigh) (c_t_readWide := c_t_readWide) (p0 := v28) (p1 := v40)  q46 h47) dX9_fewest_81 gX9_fewest_X9_areBeside rfl rfl rfl (by decide +kernel) ⟨Nat.le_of_ble_eq_true rfl, Nat.le_of_ble_eq_true rfl⟩ ⟨Nat.le_of_ble_eq_true rfl, Nat.le_of_ble_eq_true rfl⟩ (z_spl_of [2, 0, 1] rfl rfl) rfl rfl rfl rfl (Nat.le_of_ble_eq_true rfl) rfl (fun rv w9 hq => ?_)
      obtain ⟨rfl, rfl⟩ := hq
      refine z_ws [(a_t_now, zI J 243 f_t_now), (a_t_wanted, zI J 16 v41), (a_t, .inr (8, [.int (zi c_t_refusal), .int (zi c_t_high), .int (zi c_t_wide), .ref a_t_now, .ref a_t_trial, .ref a_t_diary, .int (zi c_t_acts), .int (zi c_t_next), .ref a_t_kept, .ref a_t_isKept, .ref a_t_script, .int (zi c_t_scriptSize), .int (zi c_t_spot), .ref a_t_read, .int (zi c_t_readHigh), .int (zi c_t_readWide), .ref a_t_wanted, .ref a_t_level, .ref a_t_chosen, .ref a_t_best]))] rfl ?_
      have g48 := zkr_p hsh
      replace hsh := zkr_k hsh
      refine z_if_eq (pc' := 87) (tgt := 138) dX9_fewest_84 (by decide) g48 rfl (fun q => ?_) (fun q => ?_)
      · replace hsh := zif_t q hsh
        refine z_iinc (pc' := 141) [(5, .int (zi (v40 + (1 : Int)))), (0, .ref a_t), (3, .int (zi v39)), (4, .int (zi v28))] 3 dX9_fewest_138 rfl (by decide) rfl rfl ?_
        refine z_goto (tgt := 67) dX9_fewest_141 (by decide) ?_
        refine z_perm [(a_t, .inr (8, [.int (zi c_t_refusal), .int (zi c_t_high), .int (zi c_t_wide), .ref a_t_now, .ref a_t_trial, .ref a_t_diary, .int (zi c_t_acts), .int (zi c_t_next), .ref a_t_kept, .ref a_t_isKept, .ref a_t_script, .int (zi c_t_scriptSize), .int (zi c_t_spot), .ref a_t_read, .int (zi c_t_readHigh), .int (zi c_t_readWide), .ref a_t_wanted, .ref a_t_level, .ref a_t_chosen, .ref a_t_best])), (a_t_now, zI J 243 f_t_now), (a_t_wanted, zI J 16 v41)] [(0, .ref a_t), (3, .int (zi v39)), (4, .int (zi v28)), (5, .int (zi (v40 + (1 : Int))))] [2, 0, 1] [1, 2, 3, 0] rfl rfl rfl ?_
        exact ih _ _ _ hsh
      · replace hsh := zif_f q hsh
        refine z_aload_n (pc' := 88) 0 dX9_fewest_87 rfl rfl rfl ?_
        refine z_getfield (pc' := 91) (C := RX9) (T := TX9) (N := 20) 2 16 dX9_fewest_88 iX9_fewest_X9 rfl rfl (by decide) mX9_fewest_f39 rfl rfl ?_
        refine z_iload (pc' := 93) 3 dX9_fewest_91 rfl rfl ?_
        have g49 := zkx_p hsh
        replace hsh := zkx_k hsh
        refine z_iaload (pc' := 94) 1 dX9_fewest_93 rfl (by decide) g49 rfl ?_
        refine z_aload_n (pc' := 95) 0 dX9_fewest_94 rfl rfl rfl ?_
        refine z_getfield (pc' := 98) (C := RX9) (T := TX9) (N := 20) 2 16 dX9_fewest_95 iX9_fewest_X9 rfl rfl (by decide) mX9_fewest_f39 rfl rfl ?_
        refine z_iload (pc' := 100) 2 dX9_fewest_98 rfl rfl ?_
        have g50 := zkx_p hsh
        replace hsh := zkx_k hsh
        refine z_iaload (pc' := 101) 1 dX9_fewest_100 rfl (by decide) g50 rfl ?_
        refine z_aload_n (pc' := 102) 0 dX9_fewest_101 rfl rfl rfl ?_
        refine z_getfield (pc' := 105) (C := RX9) (T := TX9) (N := 20) 2 3 dX9_fewest_102 iX9_fewest_X9 rfl rfl (by decide) mX9_fewest_f16 rfl rfl ?_
        refine z_sipush (pc' := 108) dX9_fewest_105 (by decide) rfl ?_
        refine z_iaload (pc' := 109) 0 dX9_fewest_108 rfl (by decide) (by decide) rfl ?_
        refine z_isub (pc' := 110) dX9_fewest_109 rfl ?_
        have g51 := zkr_p hsh
        replace hsh := zkr_k hsh
        have g52 := zkr_p hsh
        replace hsh := zkr_k hsh
        refine z_icmp_ge (pc' := 113) (tgt := 138) dX9_fewest_110 (by decide) g51 g52 rfl (fun q => ?_) (fun q => ?_)
        · replace hsh := zif_f q hsh
          refine z_iinc (pc' := 141) [(5, .int (zi (v40 + (1 : Int)))), (0, .ref a_t), (3, .int (zi v39)), (4, .int (zi v28))] 3 dX9_fewest_138 rfl (by decide) rfl rfl ?_
          refine z_goto (tgt := 67) dX9_fewest_141 (by decide) ?_
          refine z_perm [(a_t, .inr (8, [.int (zi c_t_refusal), .int (zi c_t_high), .int (zi c_t_wide), .ref a_t_now, .ref a_t_trial, .ref a_t_diary, .int (zi c_t_acts), .int (zi c_t_next), .ref a_t_kept, .ref a_t_isKept, .ref a_t_script, .int (zi c_t_scriptSize), .int (zi c_t_spot), .ref a_t_read, .int (zi c_t_readHigh), .int (zi c_t_readWide), .ref a_t_wanted, .ref a_t_level, .ref a_t_chosen, .ref a_t_best])), (a_t_now, zI J 243 f_t_now), (a_t_wanted, zI J 16 v41)] [(0, .ref a_t), (3, .int (zi v39)), (4, .int (zi v28)), (5, .int (zi (v40 + (1 : Int))))] [2, 0, 1] [1, 2, 3, 0] rfl rfl rfl ?_
          exact ih _ _ _ hsh
        · replace hsh := zif_t q hsh
          refine z_aload_n (pc' := 114) 0 dX9_fewest_113 rfl rfl rfl ?_
          refine z_getfield (pc' := 117) (C := RX9) (T := TX9) (N := 20) 2 16 dX9_fewest_114 iX9_fewest_X9 rfl rfl (by decide) mX9_fewest_f39 rfl rfl ?_
          refine z_iload (pc' := 119) 3 dX9_fewest_117 rfl rfl ?_
          refine z_aload_n (pc' := 120) 0 dX9_fewest_119 rfl rfl rfl ?_
          refine z_getfield (pc' := 123) (C := RX9) (T := TX9) (N := 20) 2 16 dX9_fewest_120 iX9_fewest_X9 rfl rfl (by decide) mX9_fewest_f39 rfl rfl ?_
          refine z_iload (pc' := 125) 2 dX9_fewest_123 rfl rfl ?_
          refine z_iaload (pc' := 126) 1 dX9_fewest_125 rfl (by decide) g50 rfl ?_
          refine z_aload_n (pc' := 127) 0 dX9_fewest_126 rfl rfl rfl ?_
          refine z_getfield (pc' := 130) (C := RX9) (T := TX9) (N := 20) 2 3 dX9_fewest_127 iX9_fewest_X9 rfl rfl (by decide) mX9_fewest_f16 rfl rfl ?_
          refine z_sipush (pc' := 133) dX9_fewest_130 (by decide) rfl ?_
          refine z_iaload (pc' := 134) 0 dX9_fewest_133 rfl (by decide) (by decide) rfl ?_
          refine z_isub (pc' := 135) dX9_fewest_134 rfl ?_
          refine z_iastore (pc' := 136) 1 [(a_t_now, zI J 243 f_t_now), (a_t_wanted, zI J 16 (va_up v41 (v40).toNat ((v41 (v28).toNat) - (f_t_now ((240 : Int)).toNat)))), (a_t, .inr (8, [.int (zi c_t_refusal), .int (zi c_t_high), .int (zi c_t_wide), .ref a_t_now, .ref a_t_trial, .ref a_t_diary, .int (zi c_t_acts), .int (zi c_t_next), .ref a_t_kept, .ref a_t_isKept, .ref a_t_script, .int (zi c_t_scriptSize), .int (zi c_t_spot), .ref a_t_read, .int (zi c_t_readHigh), .int (zi c_t_readWide), .ref a_t_wanted, .ref a_t_level, .ref a_t_chosen, .ref a_t_best]))] dX9_fewest_135 rfl (by decide) g49 rfl rfl ?_
          refine z_iconst (pc' := 137) dX9_fewest_136 rfl ?_
          refine z_istore_n (pc' := 138) [(3, .int (zi (1 : Int))), (0, .ref a_t), (4, .int (zi v28)), (5, .int (zi v40))] dX9_fewest_137 rfl (by decide) rfl rfl ?_
          refine z_iinc (pc' := 141) [(5, .int (zi (v40 + (1 : Int)))), (3, .int (zi (1 : Int))), (0, .ref a_t), (4, .int (zi v28))] 3 dX9_fewest_138 rfl (by decide) rfl rfl ?_
          refine z_goto (tgt := 67) dX9_fewest_141 (by decide) ?_
          refine z_perm [(a_t, .inr (8, [.int (zi c_t_refusal), .int (zi c_t_high), .int (zi c_t_wide), .ref a_t_now, .ref a_t_trial, .ref a_t_diary, .int (zi c_t_acts), .int (zi c_t_next), .ref a_t_kept, .ref a_t_isKept, .ref a_t_script, .int (zi c_t_scriptSize), .int (zi c_t_spot), .ref a_t_read, .int (zi c_t_readHigh), .int (zi c_t_readWide), .ref a_t_wanted, .ref a_t_level, .ref a_t_chosen, .ref a_t_best])), (a_t_now, zI J 243 f_t_now), (a_t_wanted, zI J 16 (va_up v41 (v40).toNat ((v41 (v28).toNat) - (f_t_now ((240 : Int)).toNat))))] [(0, .ref a_t), (3, .int (zi (1 : Int))), (4, .int (zi v28)), (5, .int (zi (v40 + (1 : Int))))] [2, 0, 1] [2, 1, 3, 0] rfl rfl rfl ?_
          exact ih _ _ _ hsh
set_option maxRecDepth 100000 in
set_option maxHeartbeats 4000000 in
theorem zl_X9_fewest_L55 {p : Program} {l : Launch} {e : Env} {s : State} {m : MethodId} {args : Array Value} {below : List Frame} {meth : Method} {c : Code} {A : Nat → Prop} {D : va_G} {J : Nat → ClassId} {F : Nat} {c_t_high : Int} {c_t_wide : Int} {f_t_now : Nat → Int} {a_t : Nat} {c_t_refusal : Int} {a_t_now : Nat} {a_t_trial : Nat} {a_t_diary : Nat} {c_t_acts : Int} {c_t_next : Int} {a_t_kept : Nat} {a_t_isKept : Nat} {a_t_script : Nat} {c_t_scriptSize : Int} {c_t_spot : Int} {a_t_read : Nat} {c_t_readHigh : Int} {c_t_readWide : Int} {a_t_wanted : Nat} {a_t_level : Nat} {a_t_chosen : Nat} {a_t_best : Nat} {res : Int × (Nat → Int)} {k : Int → Int → (Nat → Int) → Option (Int × (Nat → Int))} (hk : ∀ (v27' : Int) (v28' : Int) (v29' : (Nat → Int)), k v27' v28' v29' = some res → Z p l e ({ frames := 1, cells := 0, slots := 0, locals := 24 } : Room) s m args below meth c (MQ below (zQ D J A (fun rv w9 => rv = some (.int (zi res.1)) ∧ w9 = [(a_t, .inr (8, [.int (zi c_t_refusal), .int (zi c_t_high), .int (zi c_t_wide), .ref a_t_now, .ref a_t_trial, .ref a_t_diary, .int (zi c_t_acts), .int (zi c_t_next), .ref a_t_kept, .ref a_t_isKept, .ref a_t_script, .int (zi c_t_scriptSize), .int (zi c_t_spot), .ref a_t_read, .int (zi c_t_readHigh), .int (zi c_t_readWide), .ref a_t_wanted, .ref a_t_level, .ref a_t_chosen, .ref a_t_best])), (a_t_now, zI J 243 f_t_now), (a_t_wanted, zI J 16 res.2)])) args s 0 0 A) cX9_fewest 8 wsX9_fewest RX9 D J A (some .int) (yX9_fewest.name, []) 0 0 [(a_t, .inr (8, [.int (zi c_t_refusal), .int (zi c_t_high), .int (zi c_t_wide), .ref a_t_now, .ref a_t_trial, .ref a_t_diary, .int (zi c_t_acts), .int (zi c_t_next), .ref a_t_kept, .ref a_t_isKept, .ref a_t_script, .int (zi c_t_scriptSize), .int (zi c_t_spot), .ref a_t_read, .int (zi c_t_readHigh), .int (zi c_t_readWide), .ref a_t_wanted, .ref a_t_level, .ref a_t_chosen, .ref a_t_best])), (a_t_now, zI J 243 f_t_now), (a_t_wanted, zI J 16 v29')] [(0, .ref a_t), (3, .int (zi v27'))] 150 []) : ∀ (N : Nat) (v27 : Int) (v28 : Int) (v29 : (Nat → Int)), sh_X9_fewest_L55 F c_t_high c_t_wide f_t_now k N v27 v28 v29 = some res → Z p l e ({ frames := 1, cells := 0, slots := 0, locals := 24 } : Room) s m args below meth c (MQ below (zQ D J A (fun rv w9 => rv = some (.int (zi res.1)) ∧ w9 = [(a_t, .inr (8, [.int (zi c_t_refusal), .int (zi c_t_high), .int (zi c_t_wide), .ref a_t_now, .ref a_t_trial, .ref a_t_diary, .int (zi c_t_acts), .int (zi c_t_next), .ref a_t_kept, .ref a_t_isKept, .ref a_t_script, .int (zi c_t_scriptSize), .int (zi c_t_spot), .ref a_t_read, .int (zi c_t_readHigh), .int (zi c_t_readWide), .ref a_t_wanted, .ref a_t_level, .ref a_t_chosen, .ref a_t_best])), (a_t_now, zI J 243 f_t_now), (a_t_wanted, zI J 16 res.2)])) args s 0 0 A) cX9_fewest 8 wsX9_fewest RX9 D J A (some .int) (yX9_fewest.name, []) 0 0 [(a_t, .inr (8, [.int (zi c_t_refusal), .int (zi c_t_high), .int (zi c_t_wide), .ref a_t_now, .ref a_t_trial, .ref a_t_diary, .int (zi c_t_acts), .int (zi c_t_next), .ref a_t_kept, .ref a_t_isKept, .ref a_t_script, .int (zi c_t_scriptSize), .int (zi c_t_spot), .ref a_t_read, .int (zi c_t_readHigh), .int (zi c_t_readWide), .ref a_t_wanted, .ref a_t_level, .ref a_t_chosen, .ref a_t_best])), (a_t_now, zI J 243 f_t_now), (a_t_wanted, zI J 16 v29)] [(0, .ref a_t), (3, .int (zi v27)), (4, .int (zi v28))] 55 [] := by
  intro N
  induction N with
  | zero =>
    intro v27 v28 v29 hsh
    exact absurd hsh (by simp [sh_X9_fewest_L55])
  | succ N ih =>
    intro v27 v28 v29 hsh
    rw [sh_X9_fewest_L55] at hsh
    refine z_iload (pc' := 57) 2 dX9_fewest_55 rfl rfl ?_
    refine z_aload_n (pc' := 58) 0 dX9_fewest_57 rfl rfl rfl ?_
    obtain ⟨q30, h31, hsh⟩ := zbind hsh
    refine z_callV (pc' := 61) (C := RX9) (As := []) (rest := [.int (zi v28)]) (wr := [(a_t_now, zI J 243 f_t_now), (a_t_wanted, zI J 16 v29)]) 0 (zc_X9_points l D J F (a_t := a_t) (a_t_now := a_t_now) (a_t_trial := a_t_trial) (a_t_diary := a_t_diary) (a_t_kept := a_t_kept) (a_t_isKept := a_t_isKept) (a_t_script := a_t_script) (a_t_read := a_t_read) (a_t_wanted := a_t_wanted) (a_t_level := a_t_level) (a_t_chosen := a_t_chosen) (a_t_best := a_t_best) (c_t_refusal := c_t_refusal) (c_t_high := c_t_high) (c_t_wide := c_t_wide) (c_t_acts := c_t_acts) (c_t_next := c_t_next) (c_t_scriptSize := c_t_scriptSize) (c_t_spot := c_t_spot) (c_t_readHigh := c_t_readHigh) (c_t_readWide := c_t_readWide)  q30 h31) dX9_fewest_58 gX9_fewest_X9_points rfl rfl rfl (by decide +kernel) ⟨Nat.le_of_ble_eq_true rfl, Nat.le_of_ble_eq_true rfl⟩ ⟨Nat.le_of_ble_eq_true rfl, Nat.le_of_ble_eq_true rfl⟩ (z_spl_of [0, 1, 2] rfl rfl) rfl rfl rfl rfl (Nat.le_of_ble_eq_true rfl) rfl (fun rv w9 hq => ?_)
    obtain ⟨rfl, rfl⟩ := hq
    refine z_ws [(a_t_now, zI J 243 f_t_now), (a_t_wanted, zI J 16 v29), (a_t, .inr (8, [.int (zi c_t_refusal), .int (zi c_t_high), .int (zi c_t_wide), .ref a_t_now, .ref a_t_trial, .ref a_t_diary, .int (zi c_t_acts), .int (zi c_t_next), .ref a_t_kept, .ref a_t_isKept, .ref a_t_script, .int (zi c_t_scriptSize), .int (zi c_t_spot), .ref a_t_read, .int (zi c_t_readHigh), .int (zi c_t_readWide), .ref a_t_wanted, .ref a_t_level, .ref a_t_chosen, .ref a_t_best]))] rfl ?_
    have g32 := zkr_p hsh
    replace hsh := zkr_k hsh
    have g33 := zkr_p hsh
    replace hsh := zkr_k hsh
    refine z_icmp_ge (pc' := 64) (tgt := 150) dX9_fewest_61 (by decide) g32 g33 rfl (fun q => ?_) (fun q => ?_)
    · replace hsh := zif_f q hsh
      refine z_perm [(a_t, .inr (8, [.int (zi c_t_refusal), .int (zi c_t_high), .int (zi c_t_wide), .ref a_t_now, .ref a_t_trial, .ref a_t_diary, .int (zi c_t_acts), .int (zi c_t_next), .ref a_t_kept, .ref a_t_isKept, .ref a_t_script, .int (zi c_t_scriptSize), .int (zi c_t_spot), .ref a_t_read, .int (zi c_t_readHigh), .int (zi c_t_readWide), .ref a_t_wanted, .ref a_t_level, .ref a_t_chosen, .ref a_t_best])), (a_t_now, zI J 243 f_t_now), (a_t_wanted, zI J 16 v29)] [(0, .ref a_t), (3, .int (zi v27))] [2, 0, 1] [0, 1] rfl rfl rfl ?_
      exact hk _ _ _ hsh
    · replace hsh := zif_t q hsh
      refine z_iconst (pc' := 65) dX9_fewest_64 rfl ?_
      refine z_istore (pc' := 67) [(5, .int (zi (0 : Int))), (0, .ref a_t), (3, .int (zi v27)), (4, .int (zi v28))] dX9_fewest_65 (by decide) rfl rfl ?_
      refine z_perm [(a_t, .inr (8, [.int (zi c_t_refusal), .int (zi c_t_high), .int (zi c_t_wide), .ref a_t_now, .ref a_t_trial, .ref a_t_diary, .int (zi c_t_acts), .int (zi c_t_next), .ref a_t_kept, .ref a_t_isKept, .ref a_t_script, .int (zi c_t_scriptSize), .int (zi c_t_spot), .ref a_t_read, .int (zi c_t_readHigh), .int (zi c_t_readWide), .ref a_t_wanted, .ref a_t_level, .ref a_t_chosen, .ref a_t_best])), (a_t_now, zI J 243 f_t_now), (a_t_wanted, zI J 16 v29)] [(0, .ref a_t), (3, .int (zi v27)), (4, .int (zi v28)), (5, .int (zi (0 : Int)))] [2, 0, 1] [1, 2, 3, 0] rfl rfl rfl ?_
      refine zl_X9_fewest_L67 (F := F) (hk := fun v53 v54 v55 hsh => ?_) _ _ _ _ hsh
      refine z_iinc (pc' := 147) [(4, .int (zi (v28 + (1 : Int)))), (0, .ref a_t), (3, .int (zi v53))] 2 dX9_fewest_144 rfl (by decide) rfl rfl ?_
      refine z_goto (tgt := 55) dX9_fewest_147 (by decide) ?_
      refine z_perm [(a_t, .inr (8, [.int (zi c_t_refusal), .int (zi c_t_high), .int (zi c_t_wide), .ref a_t_now, .ref a_t_trial, .ref a_t_diary, .int (zi c_t_acts), .int (zi c_t_next), .ref a_t_kept, .ref a_t_isKept, .ref a_t_script, .int (zi c_t_scriptSize), .int (zi c_t_spot), .ref a_t_read, .int (zi c_t_readHigh), .int (zi c_t_readWide), .ref a_t_wanted, .ref a_t_level, .ref a_t_chosen, .ref a_t_best])), (a_t_now, zI J 243 f_t_now), (a_t_wanted, zI J 16 v55)] [(0, .ref a_t), (3, .int (zi v53)), (4, .int (zi (v28 + (1 : Int))))] [0, 1, 2] [1, 2, 0] rfl rfl rfl ?_
      exact ih _ _ _ hsh
set_option maxRecDepth 100000 in
set_option maxHeartbeats 4000000 in
theorem zl_X9_fewest_L46 {p : Program} {l : Launch} {e : Env} {s : State} {m : MethodId} {args : Array Value} {below : List Frame} {meth : Method} {c : Code} {A : Nat → Prop} {D : va_G} {J : Nat → ClassId} {F : Nat} {c_t_high : Int} {c_t_wide : Int} {f_t_now : Nat → Int} {a_t : Nat} {c_t_refusal : Int} {a_t_now : Nat} {a_t_trial : Nat} {a_t_diary : Nat} {c_t_acts : Int} {c_t_next : Int} {a_t_kept : Nat} {a_t_isKept : Nat} {a_t_script : Nat} {c_t_scriptSize : Int} {c_t_spot : Int} {a_t_read : Nat} {c_t_readHigh : Int} {c_t_readWide : Int} {a_t_wanted : Nat} {a_t_level : Nat} {a_t_chosen : Nat} {a_t_best : Nat} {res : Int × (Nat → Int)} {k : Int → (Nat → Int) → Option (Int × (Nat → Int))} (hk : ∀ (v19' : Int) (v20' : (Nat → Int)), k v19' v20' = some res → Z p l e ({ frames := 1, cells := 0, slots := 0, locals := 24 } : Room) s m args below meth c (MQ below (zQ D J A (fun rv w9 => rv = some (.int (zi res.1)) ∧ w9 = [(a_t, .inr (8, [.int (zi c_t_refusal), .int (zi c_t_high), .int (zi c_t_wide), .ref a_t_now, .ref a_t_trial, .ref a_t_diary, .int (zi c_t_acts), .int (zi c_t_next), .ref a_t_kept, .ref a_t_isKept, .ref a_t_script, .int (zi c_t_scriptSize), .int (zi c_t_spot), .ref a_t_read, .int (zi c_t_readHigh), .int (zi c_t_readWide), .ref a_t_wanted, .ref a_t_level, .ref a_t_chosen, .ref a_t_best])), (a_t_now, zI J 243 f_t_now), (a_t_wanted, zI J 16 res.2)])) args s 0 0 A) cX9_fewest 8 wsX9_fewest RX9 D J A (some .int) (yX9_fewest.name, []) 0 0 [(a_t, .inr (8, [.int (zi c_t_refusal), .int (zi c_t_high), .int (zi c_t_wide), .ref a_t_now, .ref a_t_trial, .ref a_t_diary, .int (zi c_t_acts), .int (zi c_t_next), .ref a_t_kept, .ref a_t_isKept, .ref a_t_script, .int (zi c_t_scriptSize), .int (zi c_t_spot), .ref a_t_read, .int (zi c_t_readHigh), .int (zi c_t_readWide), .ref a_t_wanted, .ref a_t_level, .ref a_t_chosen, .ref a_t_best])), (a_t_now, zI J 243 f_t_now), (a_t_wanted, zI J 16 v20')] [(0, .ref a_t)] 153 []) : ∀ (N : Nat) (v19 : Int) (v20 : (Nat → Int)), sh_X9_fewest_L46 F c_t_high c_t_wide f_t_now k N v19 v20 = some res → Z p l e ({ frames := 1, cells := 0, slots := 0, locals := 24 } : Room) s m args below meth c (MQ below (zQ D J A (fun rv w9 => rv = some (.int (zi res.1)) ∧ w9 = [(a_t, .inr (8, [.int (zi c_t_refusal), .int (zi c_t_high), .int (zi c_t_wide), .ref a_t_now, .ref a_t_trial, .ref a_t_diary, .int (zi c_t_acts), .int (zi c_t_next), .ref a_t_kept, .ref a_t_isKept, .ref a_t_script, .int (zi c_t_scriptSize), .int (zi c_t_spot), .ref a_t_read, .int (zi c_t_readHigh), .int (zi c_t_readWide), .ref a_t_wanted, .ref a_t_level, .ref a_t_chosen, .ref a_t_best])), (a_t_now, zI J 243 f_t_now), (a_t_wanted, zI J 16 res.2)])) args s 0 0 A) cX9_fewest 8 wsX9_fewest RX9 D J A (some .int) (yX9_fewest.name, []) 0 0 [(a_t, .inr (8, [.int (zi c_t_refusal), .int (zi c_t_high), .int (zi c_t_wide), .ref a_t_now, .ref a_t_trial, .ref a_t_diary, .int (zi c_t_acts), .int (zi c_t_next), .ref a_t_kept, .ref a_t_isKept, .ref a_t_script, .int (zi c_t_scriptSize), .int (zi c_t_spot), .ref a_t_read, .int (zi c_t_readHigh), .int (zi c_t_readWide), .ref a_t_wanted, .ref a_t_level, .ref a_t_chosen, .ref a_t_best])), (a_t_now, zI J 243 f_t_now), (a_t_wanted, zI J 16 v20)] [(0, .ref a_t), (3, .int (zi v19))] 46 [] := by
  intro N
  induction N with
  | zero =>
    intro v19 v20 hsh
    exact absurd hsh (by simp [sh_X9_fewest_L46])
  | succ N ih =>
    intro v19 v20 hsh
    rw [sh_X9_fewest_L46] at hsh
    refine z_iload_n (pc' := 47) 1 dX9_fewest_46 rfl rfl rfl ?_
    have g21 := zkr_p hsh
    replace hsh := zkr_k hsh
    refine z_if_eq (pc' := 50) (tgt := 153) dX9_fewest_47 (by decide) g21 rfl (fun q => ?_) (fun q => ?_)
    · replace hsh := zif_t q hsh
      refine z_perm [(a_t, .inr (8, [.int (zi c_t_refusal), .int (zi c_t_high), .int (zi c_t_wide), .ref a_t_now, .ref a_t_trial, .ref a_t_diary, .int (zi c_t_acts), .int (zi c_t_next), .ref a_t_kept, .ref a_t_isKept, .ref a_t_script, .int (zi c_t_scriptSize), .int (zi c_t_spot), .ref a_t_read, .int (zi c_t_readHigh), .int (zi c_t_readWide), .ref a_t_wanted, .ref a_t_level, .ref a_t_chosen, .ref a_t_best])), (a_t_now, zI J 243 f_t_now), (a_t_wanted, zI J 16 v20)] [(0, .ref a_t)] [0, 1, 2] [0] rfl rfl rfl ?_
      exact hk _ _ hsh
    · replace hsh := zif_f q hsh
      refine z_iconst (pc' := 51) dX9_fewest_50 rfl ?_
      refine z_istore_n (pc' := 52) [(3, .int (zi (0 : Int))), (0, .ref a_t)] dX9_fewest_51 rfl (by decide) rfl rfl ?_
      refine z_iconst (pc' := 53) dX9_fewest_52 rfl ?_
      refine z_istore (pc' := 55) [(4, .int (zi (0 : Int))), (3, .int (zi (0 : Int))), (0, .ref a_t)] dX9_fewest_53 (by decide) rfl rfl ?_
      refine z_perm [(a_t, .inr (8, [.int (zi c_t_refusal), .int (zi c_t_high), .int (zi c_t_wide), .ref a_t_now, .ref a_t_trial, .ref a_t_diary, .int (zi c_t_acts), .int (zi c_t_next), .ref a_t_kept, .ref a_t_isKept, .ref a_t_script, .int (zi c_t_scriptSize), .int (zi c_t_spot), .ref a_t_read, .int (zi c_t_readHigh), .int (zi c_t_readWide), .ref a_t_wanted, .ref a_t_level, .ref a_t_chosen, .ref a_t_best])), (a_t_now, zI J 243 f_t_now), (a_t_wanted, zI J 16 v20)] [(0, .ref a_t), (3, .int (zi (0 : Int))), (4, .int (zi (0 : Int)))] [0, 1, 2] [2, 1, 0] rfl rfl rfl ?_
      refine zl_X9_fewest_L55 (F := F) (hk := fun v56 v57 v58 hsh => ?_) _ _ _ _ hsh
      refine z_goto (tgt := 46) dX9_fewest_150 (by decide) ?_
      exact ih _ _ hsh
set_option maxRecDepth 100000 in
set_option maxHeartbeats 4000000 in
theorem zl_X9_fewest_L162 {p : Program} {l : Launch} {e : Env} {s : State} {m : MethodId} {args : Array Value} {below : List Frame} {meth : Method} {c : Code} {A : Nat → Prop} {D : va_G} {J : Nat → ClassId} {F : Nat} {c_t_high : Int} {c_t_wide : Int} {f_t_now : Nat → Int} {v60 : (Nat → Int)} {a_t : Nat} {c_t_refusal : Int} {a_t_now : Nat} {a_t_trial : Nat} {a_t_diary : Nat} {c_t_acts : Int} {c_t_next : Int} {a_t_kept : Nat} {a_t_isKept : Nat} {a_t_script : Nat} {c_t_scriptSize : Int} {c_t_spot : Int} {a_t_read : Nat} {c_t_readHigh : Int} {c_t_readWide : Int} {a_t_wanted : Nat} {a_t_level : Nat} {a_t_chosen : Nat} {a_t_best : Nat} {res : Int × (Nat → Int)} {k : Int → Int → Int → Option (Int × (Nat → Int))} (hk : ∀ (v64' : Int) (v65' : Int) (v66' : Int), k v64' v65' v66' = some res → Z p l e ({ frames := 1, cells := 0, slots := 0, locals := 24 } : Room) s m args below meth c (MQ below (zQ D J A (fun rv w9 => rv = some (.int (zi res.1)) ∧ w9 = [(a_t, .inr (8, [.int (zi c_t_refusal), .int (zi c_t_high), .int (zi c_t_wide), .ref a_t_now, .ref a_t_trial, .ref a_t_diary, .int (zi c_t_acts), .int (zi c_t_next), .ref a_t_kept, .ref a_t_isKept, .ref a_t_script, .int (zi c_t_scriptSize), .int (zi c_t_spot), .ref a_t_read, .int (zi c_t_readHigh), .int (zi c_t_readWide), .ref a_t_wanted, .ref a_t_level, .ref a_t_chosen, .ref a_t_best])), (a_t_now, zI J 243 f_t_now), (a_t_wanted, zI J 16 res.2)])) args s 0 0 A) cX9_fewest 8 wsX9_fewest RX9 D J A (some .int) (yX9_fewest.name, []) 0 0 [(a_t, .inr (8, [.int (zi c_t_refusal), .int (zi c_t_high), .int (zi c_t_wide), .ref a_t_now, .ref a_t_trial, .ref a_t_diary, .int (zi c_t_acts), .int (zi c_t_next), .ref a_t_kept, .ref a_t_isKept, .ref a_t_script, .int (zi c_t_scriptSize), .int (zi c_t_spot), .ref a_t_read, .int (zi c_t_readHigh), .int (zi c_t_readWide), .ref a_t_wanted, .ref a_t_level, .ref a_t_chosen, .ref a_t_best])), (a_t_now, zI J 243 f_t_now), (a_t_wanted, zI J 16 v60)] [(4, .int (zi v64')), (5, .int (zi v65'))] 253 []) : ∀ (N : Nat) (v64 : Int) (v65 : Int) (v66 : Int), sh_X9_fewest_L162 F c_t_high c_t_wide f_t_now v60 k N v64 v65 v66 = some res → Z p l e ({ frames := 1, cells := 0, slots := 0, locals := 24 } : Room) s m args below meth c (MQ below (zQ D J A (fun rv w9 => rv = some (.int (zi res.1)) ∧ w9 = [(a_t, .inr (8, [.int (zi c_t_refusal), .int (zi c_t_high), .int (zi c_t_wide), .ref a_t_now, .ref a_t_trial, .ref a_t_diary, .int (zi c_t_acts), .int (zi c_t_next), .ref a_t_kept, .ref a_t_isKept, .ref a_t_script, .int (zi c_t_scriptSize), .int (zi c_t_spot), .ref a_t_read, .int (zi c_t_readHigh), .int (zi c_t_readWide), .ref a_t_wanted, .ref a_t_level, .ref a_t_chosen, .ref a_t_best])), (a_t_now, zI J 243 f_t_now), (a_t_wanted, zI J 16 res.2)])) args s 0 0 A) cX9_fewest 8 wsX9_fewest RX9 D J A (some .int) (yX9_fewest.name, []) 0 0 [(a_t, .inr (8, [.int (zi c_t_refusal), .int (zi c_t_high), .int (zi c_t_wide), .ref a_t_now, .ref a_t_trial, .ref a_t_diary, .int (zi c_t_acts), .int (zi c_t_next), .ref a_t_kept, .ref a_t_isKept, .ref a_t_script, .int (zi c_t_scriptSize), .int (zi c_t_spot), .ref a_t_read, .int (zi c_t_readHigh), .int (zi c_t_readWide), .ref a_t_wanted, .ref a_t_level, .ref a_t_chosen, .ref a_t_best])), (a_t_now, zI J 243 f_t_now), (a_t_wanted, zI J 16 v60)] [(0, .ref a_t), (4, .int (zi v64)), (5, .int (zi v65)), (6, .int (zi v66))] 162 [] := by
  intro N
  induction N with
  | zero =>
    intro v64 v65 v66 hsh
    exact absurd hsh (by simp [sh_X9_fewest_L162])
  | succ N ih =>
    intro v64 v65 v66 hsh
    rw [sh_X9_fewest_L162] at hsh
    refine z_iload (pc' := 164) 3 dX9_fewest_162 rfl rfl ?_
    refine z_aload_n (pc' := 165) 0 dX9_fewest_164 rfl rfl rfl ?_
    obtain ⟨q67, h68, hsh⟩ := zbind hsh
    refine z_callV (pc' := 168) (C := RX9) (As := []) (rest := [.int (zi v66)]) (wr := [(a_t_now, zI J 243 f_t_now), (a_t_wanted, zI J 16 v60)]) 0 (zc_X9_points l D J F (a_t := a_t) (a_t_now := a_t_now) (a_t_trial := a_t_trial) (a_t_diary := a_t_diary) (a_t_kept := a_t_kept) (a_t_isKept := a_t_isKept) (a_t_script := a_t_script) (a_t_read := a_t_read) (a_t_wanted := a_t_wanted) (a_t_level := a_t_level) (a_t_chosen := a_t_chosen) (a_t_best := a_t_best) (c_t_refusal := c_t_refusal) (c_t_high := c_t_high) (c_t_wide := c_t_wide) (c_t_acts := c_t_acts) (c_t_next := c_t_next) (c_t_scriptSize := c_t_scriptSize) (c_t_spot := c_t_spot) (c_t_readHigh := c_t_readHigh) (c_t_readWide := c_t_readWide)  q67 h68) dX9_fewest_165 gX9_fewest_X9_points rfl rfl rfl (by decide +kernel) ⟨Nat.le_of_ble_eq_true rfl, Nat.le_of_ble_eq_true rfl⟩ ⟨Nat.le_of_ble_eq_true rfl, Nat.le_of_ble_eq_true rfl⟩ (z_spl_of [0, 1, 2] rfl rfl) rfl rfl rfl rfl (Nat.le_of_ble_eq_true rfl) rfl (fun rv w9 hq => ?_)
    obtain ⟨rfl, rfl⟩ := hq
    refine z_ws [(a_t_now, zI J 243 f_t_now), (a_t_wanted, zI J 16 v60), (a_t, .inr (8, [.int (zi c_t_refusal), .int (zi c_t_high), .int (zi c_t_wide), .ref a_t_now, .ref a_t_trial, .ref a_t_diary, .int (zi c_t_acts), .int (zi c_t_next), .ref a_t_kept, .ref a_t_isKept, .ref a_t_script, .int (zi c_t_scriptSize), .int (zi c_t_spot), .ref a_t_read, .int (zi c_t_readHigh), .int (zi c_t_readWide), .ref a_t_wanted, .ref a_t_level, .ref a_t_chosen, .ref a_t_best]))] rfl ?_
    have g69 := zkr_p hsh
    replace hsh := zkr_k hsh
    have g70 := zkr_p hsh
    replace hsh := zkr_k hsh
    refine z_icmp_ge (pc' := 171) (tgt := 253) dX9_fewest_168 (by decide) g69 g70 rfl (fun q => ?_) (fun q => ?_)
    · replace hsh := zif_f q hsh
      refine z_perm [(a_t, .inr (8, [.int (zi c_t_refusal), .int (zi c_t_high), .int (zi c_t_wide), .ref a_t_now, .ref a_t_trial, .ref a_t_diary, .int (zi c_t_acts), .int (zi c_t_next), .ref a_t_kept, .ref a_t_isKept, .ref a_t_script, .int (zi c_t_scriptSize), .int (zi c_t_spot), .ref a_t_read, .int (zi c_t_readHigh), .int (zi c_t_readWide), .ref a_t_wanted, .ref a_t_level, .ref a_t_chosen, .ref a_t_best])), (a_t_now, zI J 243 f_t_now), (a_t_wanted, zI J 16 v60)] [(4, .int (zi v64)), (5, .int (zi v65))] [2, 0, 1] [1, 2] rfl rfl rfl ?_
      exact hk _ _ _ hsh
    · replace hsh := zif_t q hsh
      refine z_aload_n (pc' := 172) 0 dX9_fewest_171 rfl rfl rfl ?_
      refine z_getfield (pc' := 175) (C := RX9) (T := TX9) (N := 20) 2 16 dX9_fewest_172 iX9_fewest_X9 rfl rfl (by decide) mX9_fewest_f39 rfl rfl ?_
      refine z_iload (pc' := 177) 3 dX9_fewest_175 rfl rfl ?_
      have g71 := zkx_p hsh
      replace hsh := zkx_k hsh
      refine z_iaload (pc' := 178) 1 dX9_fewest_177 rfl (by decide) g71 rfl ?_
      refine z_aload_n (pc' := 179) 0 dX9_fewest_178 rfl rfl rfl ?_
      refine z_getfield (pc' := 182) (C := RX9) (T := TX9) (N := 20) 2 3 dX9_fewest_179 iX9_fewest_X9 rfl rfl (by decide) mX9_fewest_f16 rfl rfl ?_
      refine z_bipush (pc' := 184) dX9_fewest_182 (by decide) rfl ?_
      refine z_iload (pc' := 186) 3 dX9_fewest_184 rfl rfl ?_
      refine z_imul (pc' := 187) dX9_fewest_186 rfl ?_
      refine z_iconst (pc' := 188) dX9_fewest_187 rfl ?_
      refine z_iadd (pc' := 189) dX9_fewest_188 rfl ?_
      have g72 := zkx_p hsh
      replace hsh := zkx_k hsh
      refine z_iaload (pc' := 190) 0 dX9_fewest_189 rfl (by decide) g72 rfl ?_
      refine z_isub (pc' := 191) dX9_fewest_190 rfl ?_
      refine z_istore (pc' := 193) [(7, .int (zi ((v60 (v66).toNat) - (f_t_now ((((15 : Int) * v66) + (0 : Int))).toNat)))), (0, .ref a_t), (4, .int (zi v64)), (5, .int (zi v65)), (6, .int (zi v66))] dX9_fewest_191 (by decide) rfl rfl ?_
      refine z_iload (pc' := 195) 3 dX9_fewest_193 rfl rfl ?_
      have g73 := zkr_p hsh
      replace hsh := zkr_k hsh
      refine z_if_eq (pc' := 198) (tgt := 237) dX9_fewest_195 (by decide) g73 rfl (fun q => ?_) (fun q => ?_)
      · replace hsh := zif_t q hsh
        refine z_iconst (pc' := 238) dX9_fewest_237 rfl ?_
        refine z_istore (pc' := 240) [(5, .int (zi (0 : Int))), (7, .int (zi ((v60 (v66).toNat) - (f_t_now ((((15 : Int) * v66) + (0 : Int))).toNat)))), (0, .ref a_t), (4, .int (zi v64)), (6, .int (zi v66))] dX9_fewest_238 (by decide) rfl rfl ?_
        refine z_iload (pc' := 242) 3 dX9_fewest_240 rfl rfl ?_
        refine z_iload (pc' := 244) 1 dX9_fewest_242 rfl rfl ?_
        refine z_iadd (pc' := 245) dX9_fewest_244 rfl ?_
        refine z_istore (pc' := 247) [(4, .int (zi (v64 + ((v60 (v66).toNat) - (f_t_now ((((15 : Int) * v66) + (0 : Int))).toNat))))), (5, .int (zi (0 : Int))), (7, .int (zi ((v60 (v66).toNat) - (f_t_now ((((15 : Int) * v66) + (0 : Int))).toNat)))), (0, .ref a_t), (6, .int (zi v66))] dX9_fewest_245 (by decide) rfl rfl ?_
        refine z_iinc (pc' := 250) [(6, .int (zi (v66 + (1 : Int)))), (4, .int (zi (v64 + ((v60 (v66).toNat) - (f_t_now ((((15 : Int) * v66) + (0 : Int))).toNat))))), (5, .int (zi (0 : Int))), (7, .int (zi ((v60 (v66).toNat) - (f_t_now ((((15 : Int) * v66) + (0 : Int))).toNat)))), (0, .ref a_t)] 4 dX9_fewest_247 rfl (by decide) rfl rfl ?_
        refine z_goto (tgt := 162) dX9_fewest_250 (by decide) ?_
        refine z_perm [(a_t, .inr (8, [.int (zi c_t_refusal), .int (zi c_t_high), .int (zi c_t_wide), .ref a_t_now, .ref a_t_trial, .ref a_t_diary, .int (zi c_t_acts), .int (zi c_t_next), .ref a_t_kept, .ref a_t_isKept, .ref a_t_script, .int (zi c_t_scriptSize), .int (zi c_t_spot), .ref a_t_read, .int (zi c_t_readHigh), .int (zi c_t_readWide), .ref a_t_wanted, .ref a_t_level, .ref a_t_chosen, .ref a_t_best])), (a_t_now, zI J 243 f_t_now), (a_t_wanted, zI J 16 v60)] [(0, .ref a_t), (4, .int (zi (v64 + ((v60 (v66).toNat) - (f_t_now ((((15 : Int) * v66) + (0 : Int))).toNat))))), (5, .int (zi (0 : Int))), (6, .int (zi (v66 + (1 : Int))))] [2, 0, 1] [4, 1, 2, 0] rfl rfl rfl ?_
        exact ih _ _ _ hsh
      · replace hsh := zif_f q hsh
        refine z_iload (pc' := 200) 0 dX9_fewest_198 rfl rfl ?_
        have g74 := zkr_p hsh
        replace hsh := zkr_k hsh
        refine z_if_eq (pc' := 203) (tgt := 233) dX9_fewest_200 (by decide) g74 rfl (fun q => ?_) (fun q => ?_)
        · replace hsh := zif_t q hsh
          refine z_iconst (pc' := 234) dX9_fewest_233 rfl ?_
          refine z_goto (tgt := 238) dX9_fewest_234 (by decide) ?_
          refine z_istore (pc' := 240) [(5, .int (zi (1 : Int))), (7, .int (zi ((v60 (v66).toNat) - (f_t_now ((((15 : Int) * v66) + (0 : Int))).toNat)))), (0, .ref a_t), (4, .int (zi v64)), (6, .int (zi v66))] dX9_fewest_238 (by decide) rfl rfl ?_
          refine z_iload (pc' := 242) 3 dX9_fewest_240 rfl rfl ?_
          refine z_iload (pc' := 244) 1 dX9_fewest_242 rfl rfl ?_
          refine z_iadd (pc' := 245) dX9_fewest_244 rfl ?_
          refine z_istore (pc' := 247) [(4, .int (zi (v64 + ((v60 (v66).toNat) - (f_t_now ((((15 : Int) * v66) + (0 : Int))).toNat))))), (5, .int (zi (1 : Int))), (7, .int (zi ((v60 (v66).toNat) - (f_t_now ((((15 : Int) * v66) + (0 : Int))).toNat)))), (0, .ref a_t), (6, .int (zi v66))] dX9_fewest_245 (by decide) rfl rfl ?_
          refine z_iinc (pc' := 250) [(6, .int (zi (v66 + (1 : Int)))), (4, .int (zi (v64 + ((v60 (v66).toNat) - (f_t_now ((((15 : Int) * v66) + (0 : Int))).toNat))))), (5, .int (zi (1 : Int))), (7, .int (zi ((v60 (v66).toNat) - (f_t_now ((((15 : Int) * v66) + (0 : Int))).toNat)))), (0, .ref a_t)] 4 dX9_fewest_247 rfl (by decide) rfl rfl ?_
          refine z_goto (tgt := 162) dX9_fewest_250 (by decide) ?_
          refine z_perm [(a_t, .inr (8, [.int (zi c_t_refusal), .int (zi c_t_high), .int (zi c_t_wide), .ref a_t_now, .ref a_t_trial, .ref a_t_diary, .int (zi c_t_acts), .int (zi c_t_next), .ref a_t_kept, .ref a_t_isKept, .ref a_t_script, .int (zi c_t_scriptSize), .int (zi c_t_spot), .ref a_t_read, .int (zi c_t_readHigh), .int (zi c_t_readWide), .ref a_t_wanted, .ref a_t_level, .ref a_t_chosen, .ref a_t_best])), (a_t_now, zI J 243 f_t_now), (a_t_wanted, zI J 16 v60)] [(0, .ref a_t), (4, .int (zi (v64 + ((v60 (v66).toNat) - (f_t_now ((((15 : Int) * v66) + (0 : Int))).toNat))))), (5, .int (zi (1 : Int))), (6, .int (zi (v66 + (1 : Int))))] [2, 0, 1] [4, 1, 2, 0] rfl rfl rfl ?_
          exact ih _ _ _ hsh
        · replace hsh := zif_f q hsh
          refine z_aload_n (pc' := 204) 1 dX9_fewest_203 rfl rfl rfl ?_
          refine z_getfield (pc' := 207) (C := RX9) (T := TX9) (N := 20) 2 3 dX9_fewest_204 iX9_fewest_X9 rfl rfl (by decide) mX9_fewest_f16 rfl rfl ?_
          refine z_bipush (pc' := 209) dX9_fewest_207 (by decide) rfl ?_
          refine z_iload (pc' := 211) 4 dX9_fewest_209 rfl rfl ?_
          refine z_imul (pc' := 212) dX9_fewest_211 rfl ?_
          refine z_iconst (pc' := 213) dX9_fewest_212 rfl ?_
          refine z_iadd (pc' := 214) dX9_fewest_213 rfl ?_
          have g75 := zkx_p hsh
          replace hsh := zkx_k hsh
          refine z_iaload (pc' := 215) 0 dX9_fewest_214 rfl (by decide) g75 rfl ?_
          have g76 := zkr_p hsh
          replace hsh := zkr_k hsh
          refine z_if_ne (pc' := 218) (tgt := 237) dX9_fewest_215 (by decide) g76 rfl (fun q => ?_) (fun q => ?_)
          · replace hsh := zif_f q hsh
            refine z_iconst (pc' := 238) dX9_fewest_237 rfl ?_
            refine z_istore (pc' := 240) [(5, .int (zi (0 : Int))), (7, .int (zi ((v60 (v66).toNat) - (f_t_now ((((15 : Int) * v66) + (0 : Int))).toNat)))), (0, .ref a_t), (4, .int (zi v64)), (6, .int (zi v66))] dX9_fewest_238 (by decide) rfl rfl ?_
            refine z_iload (pc' := 242) 3 dX9_fewest_240 rfl rfl ?_
            refine z_iload (pc' := 244) 1 dX9_fewest_242 rfl rfl ?_
            refine z_iadd (pc' := 245) dX9_fewest_244 rfl ?_
            refine z_istore (pc' := 247) [(4, .int (zi (v64 + ((v60 (v66).toNat) - (f_t_now ((((15 : Int) * v66) + (0 : Int))).toNat))))), (5, .int (zi (0 : Int))), (7, .int (zi ((v60 (v66).toNat) - (f_t_now ((((15 : Int) * v66) + (0 : Int))).toNat)))), (0, .ref a_t), (6, .int (zi v66))] dX9_fewest_245 (by decide) rfl rfl ?_
            refine z_iinc (pc' := 250) [(6, .int (zi (v66 + (1 : Int)))), (4, .int (zi (v64 + ((v60 (v66).toNat) - (f_t_now ((((15 : Int) * v66) + (0 : Int))).toNat))))), (5, .int (zi (0 : Int))), (7, .int (zi ((v60 (v66).toNat) - (f_t_now ((((15 : Int) * v66) + (0 : Int))).toNat)))), (0, .ref a_t)] 4 dX9_fewest_247 rfl (by decide) rfl rfl ?_
            refine z_goto (tgt := 162) dX9_fewest_250 (by decide) ?_
            refine z_perm [(a_t, .inr (8, [.int (zi c_t_refusal), .int (zi c_t_high), .int (zi c_t_wide), .ref a_t_now, .ref a_t_trial, .ref a_t_diary, .int (zi c_t_acts), .int (zi c_t_next), .ref a_t_kept, .ref a_t_isKept, .ref a_t_script, .int (zi c_t_scriptSize), .int (zi c_t_spot), .ref a_t_read, .int (zi c_t_readHigh), .int (zi c_t_readWide), .ref a_t_wanted, .ref a_t_level, .ref a_t_chosen, .ref a_t_best])), (a_t_now, zI J 243 f_t_now), (a_t_wanted, zI J 16 v60)] [(0, .ref a_t), (4, .int (zi (v64 + ((v60 (v66).toNat) - (f_t_now ((((15 : Int) * v66) + (0 : Int))).toNat))))), (5, .int (zi (0 : Int))), (6, .int (zi (v66 + (1 : Int))))] [2, 0, 1] [4, 1, 2, 0] rfl rfl rfl ?_
            exact ih _ _ _ hsh
          · replace hsh := zif_t q hsh
            refine z_iload (pc' := 220) 0 dX9_fewest_218 rfl rfl ?_
            refine z_aload_n (pc' := 221) 1 dX9_fewest_220 rfl rfl rfl ?_
            refine z_getfield (pc' := 224) (C := RX9) (T := TX9) (N := 20) 2 3 dX9_fewest_221 iX9_fewest_X9 rfl rfl (by decide) mX9_fewest_f16 rfl rfl ?_
            refine z_iconst (pc' := 225) dX9_fewest_224 rfl ?_
            refine z_iload (pc' := 227) 4 dX9_fewest_225 rfl rfl ?_
            obtain ⟨q77, h78, hsh⟩ := zbind hsh
            refine z_callS (pc' := 230) (As := [.ref a_t_now, .int (zi (0 : Int)), .int (zi v66)]) (rest := [.int (zi ((v60 (v66).toNat) - (f_t_now ((((15 : Int) * v66) + (0 : Int))).toNat)))]) (wr := [(a_t_wanted, zI J 16 v60), (a_t, .inr (8, [.int (zi c_t_refusal), .int (zi c_t_high), .int (zi c_t_wide), .ref a_t_now, .ref a_t_trial, .ref a_t_diary, .int (zi c_t_acts), .int (zi c_t_next), .ref a_t_kept, .ref a_t_isKept, .ref a_t_script, .int (zi c_t_scriptSize), .int (zi c_t_spot), .ref a_t_read, .int (zi c_t_readHigh), .int (zi c_t_readWide), .ref a_t_wanted, .ref a_t_level, .ref a_t_chosen, .ref a_t_best]))]) 3 (zc_X9_remainingOf l D J F (a_p0 := a_t_now) (f_p0 := f_t_now) (n_p0 := 243) (p1 := (0 : Int)) (p2 := v66) (hn_p0 := (by decide)) q77 h78) dX9_fewest_227 gX9_fewest_X9_remainingOf rfl rfl rfl (by decide +kernel) ⟨Nat.le_of_ble_eq_true rfl, Nat.le_of_ble_eq_true rfl⟩ ⟨Nat.le_of_ble_eq_true rfl, Nat.le_of_ble_eq_true rfl⟩ (z_spl_of [0, 1, 2] rfl rfl) rfl rfl (Nat.le_of_ble_eq_true rfl) rfl (fun rv w9 hq => ?_)
            obtain ⟨rfl, rfl⟩ := hq
            refine z_ws [(a_t_wanted, zI J 16 v60), (a_t, .inr (8, [.int (zi c_t_refusal), .int (zi c_t_high), .int (zi c_t_wide), .ref a_t_now, .ref a_t_trial, .ref a_t_diary, .int (zi c_t_acts), .int (zi c_t_next), .ref a_t_kept, .ref a_t_isKept, .ref a_t_script, .int (zi c_t_scriptSize), .int (zi c_t_spot), .ref a_t_read, .int (zi c_t_readHigh), .int (zi c_t_readWide), .ref a_t_wanted, .ref a_t_level, .ref a_t_chosen, .ref a_t_best])), (a_t_now, zI J 243 f_t_now)] rfl ?_
            have g79 := zkr_p hsh
            replace hsh := zkr_k hsh
            refine z_icmp_gt (pc' := 233) (tgt := 237) dX9_fewest_230 (by decide) g74 g79 rfl (fun q => ?_) (fun q => ?_)
            · replace hsh := zif_t q hsh
              refine z_iconst (pc' := 238) dX9_fewest_237 rfl ?_
              refine z_istore (pc' := 240) [(5, .int (zi (0 : Int))), (7, .int (zi ((v60 (v66).toNat) - (f_t_now ((((15 : Int) * v66) + (0 : Int))).toNat)))), (0, .ref a_t), (4, .int (zi v64)), (6, .int (zi v66))] dX9_fewest_238 (by decide) rfl rfl ?_
              refine z_iload (pc' := 242) 3 dX9_fewest_240 rfl rfl ?_
              refine z_iload (pc' := 244) 1 dX9_fewest_242 rfl rfl ?_
              refine z_iadd (pc' := 245) dX9_fewest_244 rfl ?_
              refine z_istore (pc' := 247) [(4, .int (zi (v64 + ((v60 (v66).toNat) - (f_t_now ((((15 : Int) * v66) + (0 : Int))).toNat))))), (5, .int (zi (0 : Int))), (7, .int (zi ((v60 (v66).toNat) - (f_t_now ((((15 : Int) * v66) + (0 : Int))).toNat)))), (0, .ref a_t), (6, .int (zi v66))] dX9_fewest_245 (by decide) rfl rfl ?_
              refine z_iinc (pc' := 250) [(6, .int (zi (v66 + (1 : Int)))), (4, .int (zi (v64 + ((v60 (v66).toNat) - (f_t_now ((((15 : Int) * v66) + (0 : Int))).toNat))))), (5, .int (zi (0 : Int))), (7, .int (zi ((v60 (v66).toNat) - (f_t_now ((((15 : Int) * v66) + (0 : Int))).toNat)))), (0, .ref a_t)] 4 dX9_fewest_247 rfl (by decide) rfl rfl ?_
              refine z_goto (tgt := 162) dX9_fewest_250 (by decide) ?_
              refine z_perm [(a_t, .inr (8, [.int (zi c_t_refusal), .int (zi c_t_high), .int (zi c_t_wide), .ref a_t_now, .ref a_t_trial, .ref a_t_diary, .int (zi c_t_acts), .int (zi c_t_next), .ref a_t_kept, .ref a_t_isKept, .ref a_t_script, .int (zi c_t_scriptSize), .int (zi c_t_spot), .ref a_t_read, .int (zi c_t_readHigh), .int (zi c_t_readWide), .ref a_t_wanted, .ref a_t_level, .ref a_t_chosen, .ref a_t_best])), (a_t_now, zI J 243 f_t_now), (a_t_wanted, zI J 16 v60)] [(0, .ref a_t), (4, .int (zi (v64 + ((v60 (v66).toNat) - (f_t_now ((((15 : Int) * v66) + (0 : Int))).toNat))))), (5, .int (zi (0 : Int))), (6, .int (zi (v66 + (1 : Int))))] [1, 2, 0] [4, 1, 2, 0] rfl rfl rfl ?_
              exact ih _ _ _ hsh
            · replace hsh := zif_f q hsh
              refine z_iconst (pc' := 234) dX9_fewest_233 rfl ?_
              refine z_goto (tgt := 238) dX9_fewest_234 (by decide) ?_
              refine z_istore (pc' := 240) [(5, .int (zi (1 : Int))), (7, .int (zi ((v60 (v66).toNat) - (f_t_now ((((15 : Int) * v66) + (0 : Int))).toNat)))), (0, .ref a_t), (4, .int (zi v64)), (6, .int (zi v66))] dX9_fewest_238 (by decide) rfl rfl ?_
              refine z_iload (pc' := 242) 3 dX9_fewest_240 rfl rfl ?_
              refine z_iload (pc' := 244) 1 dX9_fewest_242 rfl rfl ?_
              refine z_iadd (pc' := 245) dX9_fewest_244 rfl ?_
              refine z_istore (pc' := 247) [(4, .int (zi (v64 + ((v60 (v66).toNat) - (f_t_now ((((15 : Int) * v66) + (0 : Int))).toNat))))), (5, .int (zi (1 : Int))), (7, .int (zi ((v60 (v66).toNat) - (f_t_now ((((15 : Int) * v66) + (0 : Int))).toNat)))), (0, .ref a_t), (6, .int (zi v66))] dX9_fewest_245 (by decide) rfl rfl ?_
              refine z_iinc (pc' := 250) [(6, .int (zi (v66 + (1 : Int)))), (4, .int (zi (v64 + ((v60 (v66).toNat) - (f_t_now ((((15 : Int) * v66) + (0 : Int))).toNat))))), (5, .int (zi (1 : Int))), (7, .int (zi ((v60 (v66).toNat) - (f_t_now ((((15 : Int) * v66) + (0 : Int))).toNat)))), (0, .ref a_t)] 4 dX9_fewest_247 rfl (by decide) rfl rfl ?_
              refine z_goto (tgt := 162) dX9_fewest_250 (by decide) ?_
              refine z_perm [(a_t, .inr (8, [.int (zi c_t_refusal), .int (zi c_t_high), .int (zi c_t_wide), .ref a_t_now, .ref a_t_trial, .ref a_t_diary, .int (zi c_t_acts), .int (zi c_t_next), .ref a_t_kept, .ref a_t_isKept, .ref a_t_script, .int (zi c_t_scriptSize), .int (zi c_t_spot), .ref a_t_read, .int (zi c_t_readHigh), .int (zi c_t_readWide), .ref a_t_wanted, .ref a_t_level, .ref a_t_chosen, .ref a_t_best])), (a_t_now, zI J 243 f_t_now), (a_t_wanted, zI J 16 v60)] [(0, .ref a_t), (4, .int (zi (v64 + ((v60 (v66).toNat) - (f_t_now ((((15 : Int) * v66) + (0 : Int))).toNat))))), (5, .int (zi (1 : Int))), (6, .int (zi (v66 + (1 : Int))))] [1, 2, 0] [4, 1, 2, 0] rfl rfl rfl ?_
              exact ih _ _ _ hsh
set_option maxRecDepth 100000 in
set_option maxHeartbeats 4000000 in
theorem zc_X9_fewest (l : Launch) (D : va_G) (J : Nat → ClassId) (F : Nat) (a_t : Nat) (a_t_now : Nat) (a_t_trial : Nat) (a_t_diary : Nat) (a_t_kept : Nat) (a_t_isKept : Nat) (a_t_script : Nat) (a_t_read : Nat) (a_t_wanted : Nat) (a_t_level : Nat) (a_t_chosen : Nat) (a_t_best : Nat) (c_t_refusal : Int) (c_t_high : Int) (c_t_wide : Int) (c_t_acts : Int) (c_t_next : Int) (c_t_scriptSize : Int) (c_t_spot : Int) (c_t_readHigh : Int) (c_t_readWide : Int) (f_t_now : Nat → Int) (f_t_wanted : Nat → Int) (p0 : Int) (p1 : Int) (res : Int × (Nat → Int)) (hsh : sh_X9_fewest F c_t_high c_t_wide f_t_now f_t_wanted p0 p1 = some res) : ZM l D J yX9_fewest wsX9_fewest ({ frames := 1, cells := 0, slots := 0, locals := 24 } : Room) 0 0 [.ref a_t, .int (zi p0), .int (zi p1)] [(a_t, .inr (8, [.int (zi c_t_refusal), .int (zi c_t_high), .int (zi c_t_wide), .ref a_t_now, .ref a_t_trial, .ref a_t_diary, .int (zi c_t_acts), .int (zi c_t_next), .ref a_t_kept, .ref a_t_isKept, .ref a_t_script, .int (zi c_t_scriptSize), .int (zi c_t_spot), .ref a_t_read, .int (zi c_t_readHigh), .int (zi c_t_readWide), .ref a_t_wanted, .ref a_t_level, .ref a_t_chosen, .ref a_t_best])), (a_t_now, zI J 243 f_t_now), (a_t_wanted, zI J 16 f_t_wanted)] (fun rv w9 => rv = some (.int (zi res.1)) ∧ w9 = [(a_t, .inr (8, [.int (zi c_t_refusal), .int (zi c_t_high), .int (zi c_t_wide), .ref a_t_now, .ref a_t_trial, .ref a_t_diary, .int (zi c_t_acts), .int (zi c_t_next), .ref a_t_kept, .ref a_t_isKept, .ref a_t_script, .int (zi c_t_scriptSize), .int (zi c_t_spot), .ref a_t_read, .int (zi c_t_readHigh), .int (zi c_t_readWide), .ref a_t_wanted, .ref a_t_level, .ref a_t_chosen, .ref a_t_best])), (a_t_now, zI J 243 f_t_now), (a_t_wanted, zI J 16 res.2)]) := by
  refine z_ofZ (cc := cX9_fewest) (maxL := 8) (ret := (some .int)) 0 0 (by decide) rfl (Nat.le_of_ble_eq_true rfl) [(0, .ref a_t), (1, .int (zi p0)), (2, .int (zi p1))] rfl ?_
  intro p e s m args below meth c A
  unfold sh_X9_fewest at hsh
  refine z_iconst (pc' := 1) dX9_fewest_0 rfl ?_
  refine z_istore_n (pc' := 2) [(3, .int (zi (0 : Int))), (0, .ref a_t), (1, .int (zi p0)), (2, .int (zi p1))] dX9_fewest_1 rfl (by decide) rfl rfl ?_
  refine z_perm [(a_t, .inr (8, [.int (zi c_t_refusal), .int (zi c_t_high), .int (zi c_t_wide), .ref a_t_now, .ref a_t_trial, .ref a_t_diary, .int (zi c_t_acts), .int (zi c_t_next), .ref a_t_kept, .ref a_t_isKept, .ref a_t_script, .int (zi c_t_scriptSize), .int (zi c_t_spot), .ref a_t_read, .int (zi c_t_readHigh), .int (zi c_t_readWide), .ref a_t_wanted, .ref a_t_level, .ref a_t_chosen, .ref a_t_best])), (a_t_now, zI J 243 f_t_now), (a_t_wanted, zI J 16 f_t_wanted)] [(0, .ref a_t), (1, .int (zi p0)), (2, .int (zi p1)), (3, .int (zi (0 : Int)))] [0, 1, 2] [1, 2, 3, 0] rfl rfl rfl ?_
  refine zl_X9_fewest_L2 (F := F) (hk := fun v14 v15 hsh => ?_) _ _ _ hsh
  refine z_iconst (pc' := 45) dX9_fewest_44 rfl ?_
  refine z_istore_n (pc' := 46) [(3, .int (zi (1 : Int))), (0, .ref a_t)] dX9_fewest_45 rfl (by decide) rfl rfl ?_
  refine z_perm [(a_t, .inr (8, [.int (zi c_t_refusal), .int (zi c_t_high), .int (zi c_t_wide), .ref a_t_now, .ref a_t_trial, .ref a_t_diary, .int (zi c_t_acts), .int (zi c_t_next), .ref a_t_kept, .ref a_t_isKept, .ref a_t_script, .int (zi c_t_scriptSize), .int (zi c_t_spot), .ref a_t_read, .int (zi c_t_readHigh), .int (zi c_t_readWide), .ref a_t_wanted, .ref a_t_level, .ref a_t_chosen, .ref a_t_best])), (a_t_now, zI J 243 f_t_now), (a_t_wanted, zI J 16 v15)] [(0, .ref a_t), (3, .int (zi (1 : Int)))] [0, 1, 2] [1, 0] rfl rfl rfl ?_
  refine zl_X9_fewest_L46 (F := F) (hk := fun v59 v60 hsh => ?_) _ _ _ hsh
  refine z_iconst (pc' := 154) dX9_fewest_153 rfl ?_
  refine z_istore (pc' := 156) [(4, .int (zi (0 : Int))), (0, .ref a_t)] dX9_fewest_154 (by decide) rfl rfl ?_
  refine z_iconst (pc' := 157) dX9_fewest_156 rfl ?_
  refine z_istore (pc' := 159) [(5, .int (zi (1 : Int))), (4, .int (zi (0 : Int))), (0, .ref a_t)] dX9_fewest_157 (by decide) rfl rfl ?_
  refine z_iconst (pc' := 160) dX9_fewest_159 rfl ?_
  refine z_istore (pc' := 162) [(6, .int (zi (0 : Int))), (5, .int (zi (1 : Int))), (4, .int (zi (0 : Int))), (0, .ref a_t)] dX9_fewest_160 (by decide) rfl rfl ?_
  refine z_perm [(a_t, .inr (8, [.int (zi c_t_refusal), .int (zi c_t_high), .int (zi c_t_wide), .ref a_t_now, .ref a_t_trial, .ref a_t_diary, .int (zi c_t_acts), .int (zi c_t_next), .ref a_t_kept, .ref a_t_isKept, .ref a_t_script, .int (zi c_t_scriptSize), .int (zi c_t_spot), .ref a_t_read, .int (zi c_t_readHigh), .int (zi c_t_readWide), .ref a_t_wanted, .ref a_t_level, .ref a_t_chosen, .ref a_t_best])), (a_t_now, zI J 243 f_t_now), (a_t_wanted, zI J 16 v60)] [(0, .ref a_t), (4, .int (zi (0 : Int))), (5, .int (zi (1 : Int))), (6, .int (zi (0 : Int)))] [0, 1, 2] [3, 2, 1, 0] rfl rfl rfl ?_
  refine zl_X9_fewest_L162 (F := F) (hk := fun v80 v81 v82 hsh => ?_) _ _ _ _ hsh
  refine z_iload (pc' := 255) 1 dX9_fewest_253 rfl rfl ?_
  have g83 := zkr_p hsh
  replace hsh := zkr_k hsh
  refine z_if_eq (pc' := 258) (tgt := 263) dX9_fewest_255 (by decide) g83 rfl (fun q => ?_) (fun q => ?_)
  · replace hsh := zif_t q hsh
    refine z_bipush (pc' := 265) dX9_fewest_263 (by decide) rfl ?_
    cases hsh
    exact z_iret rfl dX9_fewest_265 ⟨rfl, rfl⟩
  · replace hsh := zif_f q hsh
    refine z_iload (pc' := 260) 0 dX9_fewest_258 rfl rfl ?_
    refine z_goto (tgt := 265) dX9_fewest_260 (by decide) ?_
    cases hsh
    exact z_iret rfl dX9_fewest_265 ⟨rfl, rfl⟩
def sh_X9_bucketsFor (F : Nat) (c_t_high : Int) (c_t_wide : Int) (f_t_now : Nat → Int) (f_t_wanted : Nat → Int) (p0 : Int) (p1 : Int) : Option (Int × Int × (Nat → Int)) := (sh_X9_isPoint F c_t_high c_t_wide p0).bind (fun (q1 : Int) => zkr q1 (if q1 = (0 : Int) then (sh_X9_refused F (1 : Int)).bind (fun (q18 : Int × Int) => zkr q18.1 (if q18.1 = (0 : Int) then (sh_X9_fewest F c_t_high c_t_wide f_t_now f_t_wanted p0 p1).bind (fun (q21 : Int × (Nat → Int)) => some (q21.1, q18.2, q21.2)) else some ((0 : Int), q18.2, f_t_wanted))) else zkr p1 ((sh_X9_in F p1 (1 : Int) (54 : Int)).bind (fun (q5 : Int) => zkr q5 (if q5 = (0 : Int) then (sh_X9_refused F (2 : Int)).bind (fun (q13 : Int × Int) => zkr q13.1 (if q13.1 = (0 : Int) then (sh_X9_fewest F c_t_high c_t_wide f_t_now f_t_wanted p0 p1).bind (fun (q16 : Int × (Nat → Int)) => some (q16.1, q13.2, q16.2)) else some ((0 : Int), q13.2, f_t_wanted))) else (sh_X9_refused F (0 : Int)).bind (fun (q8 : Int × Int) => zkr q8.1 (if q8.1 = (0 : Int) then (sh_X9_fewest F c_t_high c_t_wide f_t_now f_t_wanted p0 p1).bind (fun (q11 : Int × (Nat → Int)) => some (q11.1, q8.2, q11.2)) else some ((0 : Int), q8.2, f_t_wanted))))))))
theorem mX9_bucketsFor_k156 : Cond.constantLong RX9 156 (54) ∈ wsX9_bucketsFor := List.mem_of_getElem? (i := 1) rfl
set_option maxRecDepth 100000 in
set_option maxHeartbeats 4000000 in
theorem zc_X9_bucketsFor (l : Launch) (D : va_G) (J : Nat → ClassId) (F : Nat) (a_t : Nat) (a_t_now : Nat) (a_t_trial : Nat) (a_t_diary : Nat) (a_t_kept : Nat) (a_t_isKept : Nat) (a_t_script : Nat) (a_t_read : Nat) (a_t_wanted : Nat) (a_t_level : Nat) (a_t_chosen : Nat) (a_t_best : Nat) (c_t_refusal : Int) (c_t_high : Int) (c_t_wide : Int) (c_t_acts : Int) (c_t_next : Int) (c_t_scriptSize : Int) (c_t_spot : Int) (c_t_readHigh : Int) (c_t_readWide : Int) (f_t_now : Nat → Int) (f_t_wanted : Nat → Int) (p0 : Int) (p1 : Int) (res : Int × Int × (Nat → Int)) (hsh : sh_X9_bucketsFor F c_t_high c_t_wide f_t_now f_t_wanted p0 p1 = some res) : ZM l D J yX9_bucketsFor wsX9_bucketsFor ({ frames := 2, cells := 0, slots := 0, locals := 51 } : Room) 0 0 [.ref a_t, .int (zi p0), .int (zi p1)] [(a_t, .inr (8, [.int (zi c_t_refusal), .int (zi c_t_high), .int (zi c_t_wide), .ref a_t_now, .ref a_t_trial, .ref a_t_diary, .int (zi c_t_acts), .int (zi c_t_next), .ref a_t_kept, .ref a_t_isKept, .ref a_t_script, .int (zi c_t_scriptSize), .int (zi c_t_spot), .ref a_t_read, .int (zi c_t_readHigh), .int (zi c_t_readWide), .ref a_t_wanted, .ref a_t_level, .ref a_t_chosen, .ref a_t_best])), (a_t_now, zI J 243 f_t_now), (a_t_wanted, zI J 16 f_t_wanted)] (fun rv w9 => rv = some (.int (zi res.1)) ∧ w9 = [(a_t, .inr (8, [.int (zi res.2.1), .int (zi c_t_high), .int (zi c_t_wide), .ref a_t_now, .ref a_t_trial, .ref a_t_diary, .int (zi c_t_acts), .int (zi c_t_next), .ref a_t_kept, .ref a_t_isKept, .ref a_t_script, .int (zi c_t_scriptSize), .int (zi c_t_spot), .ref a_t_read, .int (zi c_t_readHigh), .int (zi c_t_readWide), .ref a_t_wanted, .ref a_t_level, .ref a_t_chosen, .ref a_t_best])), (a_t_now, zI J 243 f_t_now), (a_t_wanted, zI J 16 res.2.2)]) := by
  refine z_ofZ (cc := cX9_bucketsFor) (maxL := 3) (ret := (some .int)) 0 0 (by decide) rfl (Nat.le_of_ble_eq_true rfl) [(0, .ref a_t), (1, .int (zi p0)), (2, .int (zi p1))] rfl ?_
  intro p e s m args below meth c A
  unfold sh_X9_bucketsFor at hsh
  refine z_aload_n (pc' := 1) 0 dX9_bucketsFor_0 rfl rfl rfl ?_
  refine z_aload_n (pc' := 2) 0 dX9_bucketsFor_1 rfl rfl rfl ?_
  refine z_iload_n (pc' := 3) 1 dX9_bucketsFor_2 rfl rfl rfl ?_
  obtain ⟨q1, h2, hsh⟩ := zbind hsh
  refine z_callV (pc' := 6) (C := RX9) (As := [.int (zi p0)]) (rest := [.ref a_t]) (wr := [(a_t_now, zI J 243 f_t_now), (a_t_wanted, zI J 16 f_t_wanted)]) 1 (zc_X9_isPoint l D J F (a_t := a_t) (a_t_now := a_t_now) (a_t_trial := a_t_trial) (a_t_diary := a_t_diary) (a_t_kept := a_t_kept) (a_t_isKept := a_t_isKept) (a_t_script := a_t_script) (a_t_read := a_t_read) (a_t_wanted := a_t_wanted) (a_t_level := a_t_level) (a_t_chosen := a_t_chosen) (a_t_best := a_t_best) (c_t_refusal := c_t_refusal) (c_t_high := c_t_high) (c_t_wide := c_t_wide) (c_t_acts := c_t_acts) (c_t_next := c_t_next) (c_t_scriptSize := c_t_scriptSize) (c_t_spot := c_t_spot) (c_t_readHigh := c_t_readHigh) (c_t_readWide := c_t_readWide) (p0 := p0)  q1 h2) dX9_bucketsFor_3 gX9_bucketsFor_X9_isPoint rfl rfl rfl (by decide +kernel) ⟨Nat.le_of_ble_eq_true rfl, Nat.le_of_ble_eq_true rfl⟩ ⟨Nat.le_of_ble_eq_true rfl, Nat.le_of_ble_eq_true rfl⟩ (z_spl_of [0, 1, 2] rfl rfl) rfl rfl rfl rfl (Nat.le_of_ble_eq_true rfl) rfl (fun rv w9 hq => ?_)
  obtain ⟨rfl, rfl⟩ := hq
  refine z_ws [(a_t_now, zI J 243 f_t_now), (a_t_wanted, zI J 16 f_t_wanted), (a_t, .inr (8, [.int (zi c_t_refusal), .int (zi c_t_high), .int (zi c_t_wide), .ref a_t_now, .ref a_t_trial, .ref a_t_diary, .int (zi c_t_acts), .int (zi c_t_next), .ref a_t_kept, .ref a_t_isKept, .ref a_t_script, .int (zi c_t_scriptSize), .int (zi c_t_spot), .ref a_t_read, .int (zi c_t_readHigh), .int (zi c_t_readWide), .ref a_t_wanted, .ref a_t_level, .ref a_t_chosen, .ref a_t_best]))] rfl ?_
  have g3 := zkr_p hsh
  replace hsh := zkr_k hsh
  refine z_if_ne (pc' := 9) (tgt := 13) dX9_bucketsFor_6 (by decide) g3 rfl (fun q => ?_) (fun q => ?_)
  · replace hsh := zif_f q hsh
    refine z_iload_n (pc' := 14) 2 dX9_bucketsFor_13 rfl rfl rfl ?_
    have g4 := zkr_p hsh
    replace hsh := zkr_k hsh
    refine z_i2l (pc' := 15) dX9_bucketsFor_14 g4 rfl ?_
    refine z_lconst (pc' := 16) 1 dX9_bucketsFor_15 (by decide) rfl ?_
    refine z_ldc2 (pc' := 19) (54 : Int) dX9_bucketsFor_16 mX9_bucketsFor_k156 (by decide) rfl ?_
    obtain ⟨q5, h6, hsh⟩ := zbind hsh
    refine z_callS (pc' := 22) (As := [.long (zl p1), .long (zl (1 : Int)), .long (zl (54 : Int))]) (rest := [.ref a_t]) (wr := [(a_t_now, zI J 243 f_t_now), (a_t_wanted, zI J 16 f_t_wanted), (a_t, .inr (8, [.int (zi c_t_refusal), .int (zi c_t_high), .int (zi c_t_wide), .ref a_t_now, .ref a_t_trial, .ref a_t_diary, .int (zi c_t_acts), .int (zi c_t_next), .ref a_t_kept, .ref a_t_isKept, .ref a_t_script, .int (zi c_t_scriptSize), .int (zi c_t_spot), .ref a_t_read, .int (zi c_t_readHigh), .int (zi c_t_readWide), .ref a_t_wanted, .ref a_t_level, .ref a_t_chosen, .ref a_t_best]))]) 3 (zc_X9_in l D J F (p0 := p1) (p1 := (1 : Int)) (p2 := (54 : Int))  q5 h6) dX9_bucketsFor_19 gX9_bucketsFor_X9_in rfl rfl rfl (by decide +kernel) ⟨Nat.le_of_ble_eq_true rfl, Nat.le_of_ble_eq_true rfl⟩ ⟨Nat.le_of_ble_eq_true rfl, Nat.le_of_ble_eq_true rfl⟩ (z_spl_of [0, 1, 2] rfl rfl) rfl rfl (Nat.le_of_ble_eq_true rfl) rfl (fun rv w9 hq => ?_)
    obtain ⟨rfl, rfl⟩ := hq
    refine z_ws [(a_t_now, zI J 243 f_t_now), (a_t_wanted, zI J 16 f_t_wanted), (a_t, .inr (8, [.int (zi c_t_refusal), .int (zi c_t_high), .int (zi c_t_wide), .ref a_t_now, .ref a_t_trial, .ref a_t_diary, .int (zi c_t_acts), .int (zi c_t_next), .ref a_t_kept, .ref a_t_isKept, .ref a_t_script, .int (zi c_t_scriptSize), .int (zi c_t_spot), .ref a_t_read, .int (zi c_t_readHigh), .int (zi c_t_readWide), .ref a_t_wanted, .ref a_t_level, .ref a_t_chosen, .ref a_t_best]))] rfl ?_
    have g7 := zkr_p hsh
    replace hsh := zkr_k hsh
    refine z_if_ne (pc' := 25) (tgt := 29) dX9_bucketsFor_22 (by decide) g7 rfl (fun q => ?_) (fun q => ?_)
    · replace hsh := zif_f q hsh
      refine z_iconst (pc' := 30) dX9_bucketsFor_29 rfl ?_
      obtain ⟨q8, h9, hsh⟩ := zbind hsh
      refine z_callV (pc' := 33) (C := RX9) (As := [.int (zi (0 : Int))]) (rest := []) (wr := [(a_t_now, zI J 243 f_t_now), (a_t_wanted, zI J 16 f_t_wanted)]) 1 (zc_X9_refused l D J F (a_t := a_t) (a_t_now := a_t_now) (a_t_trial := a_t_trial) (a_t_diary := a_t_diary) (a_t_kept := a_t_kept) (a_t_isKept := a_t_isKept) (a_t_script := a_t_script) (a_t_read := a_t_read) (a_t_wanted := a_t_wanted) (a_t_level := a_t_level) (a_t_chosen := a_t_chosen) (a_t_best := a_t_best) (c_t_refusal := c_t_refusal) (c_t_high := c_t_high) (c_t_wide := c_t_wide) (c_t_acts := c_t_acts) (c_t_next := c_t_next) (c_t_scriptSize := c_t_scriptSize) (c_t_spot := c_t_spot) (c_t_readHigh := c_t_readHigh) (c_t_readWide := c_t_readWide) (p0 := (0 : Int))  q8 h9) dX9_bucketsFor_30 gX9_bucketsFor_X9_refused rfl rfl rfl (by decide +kernel) ⟨Nat.le_of_ble_eq_true rfl, Nat.le_of_ble_eq_true rfl⟩ ⟨Nat.le_of_ble_eq_true rfl, Nat.le_of_ble_eq_true rfl⟩ (z_spl_of [2, 0, 1] rfl rfl) rfl rfl rfl rfl (Nat.le_of_ble_eq_true rfl) rfl (fun rv w9 hq => ?_)
      obtain ⟨rfl, rfl⟩ := hq
      refine z_ws [(a_t_now, zI J 243 f_t_now), (a_t_wanted, zI J 16 f_t_wanted), (a_t, .inr (8, [.int (zi q8.2), .int (zi c_t_high), .int (zi c_t_wide), .ref a_t_now, .ref a_t_trial, .ref a_t_diary, .int (zi c_t_acts), .int (zi c_t_next), .ref a_t_kept, .ref a_t_isKept, .ref a_t_script, .int (zi c_t_scriptSize), .int (zi c_t_spot), .ref a_t_read, .int (zi c_t_readHigh), .int (zi c_t_readWide), .ref a_t_wanted, .ref a_t_level, .ref a_t_chosen, .ref a_t_best]))] rfl ?_
      have g10 := zkr_p hsh
      replace hsh := zkr_k hsh
      refine z_if_eq (pc' := 36) (tgt := 38) dX9_bucketsFor_33 (by decide) g10 rfl (fun q => ?_) (fun q => ?_)
      · replace hsh := zif_t q hsh
        refine z_aload_n (pc' := 39) 0 dX9_bucketsFor_38 rfl rfl rfl ?_
        refine z_iload_n (pc' := 40) 1 dX9_bucketsFor_39 rfl rfl rfl ?_
        refine z_iload_n (pc' := 41) 2 dX9_bucketsFor_40 rfl rfl rfl ?_
        obtain ⟨q11, h12, hsh⟩ := zbind hsh
        refine z_callV (pc' := 44) (C := RX9) (As := [.int (zi p0), .int (zi p1)]) (rest := []) (wr := []) 2 (zc_X9_fewest l D J F (a_t := a_t) (a_t_now := a_t_now) (a_t_trial := a_t_trial) (a_t_diary := a_t_diary) (a_t_kept := a_t_kept) (a_t_isKept := a_t_isKept) (a_t_script := a_t_script) (a_t_read := a_t_read) (a_t_wanted := a_t_wanted) (a_t_level := a_t_level) (a_t_chosen := a_t_chosen) (a_t_best := a_t_best) (c_t_refusal := q8.2) (c_t_high := c_t_high) (c_t_wide := c_t_wide) (c_t_acts := c_t_acts) (c_t_next := c_t_next) (c_t_scriptSize := c_t_scriptSize) (c_t_spot := c_t_spot) (c_t_readHigh := c_t_readHigh) (c_t_readWide := c_t_readWide) (f_t_now := f_t_now) (f_t_wanted := f_t_wanted) (p0 := p0) (p1 := p1)  q11 h12) dX9_bucketsFor_41 gX9_bucketsFor_X9_fewest rfl rfl rfl (by decide +kernel) ⟨Nat.le_of_ble_eq_true rfl, Nat.le_of_ble_eq_true rfl⟩ ⟨Nat.le_of_ble_eq_true rfl, Nat.le_of_ble_eq_true rfl⟩ (z_spl_of [2, 0, 1] rfl rfl) rfl rfl rfl rfl (Nat.le_of_ble_eq_true rfl) rfl (fun rv w9 hq => ?_)
        obtain ⟨rfl, rfl⟩ := hq
        refine z_ws [(a_t, .inr (8, [.int (zi q8.2), .int (zi c_t_high), .int (zi c_t_wide), .ref a_t_now, .ref a_t_trial, .ref a_t_diary, .int (zi c_t_acts), .int (zi c_t_next), .ref a_t_kept, .ref a_t_isKept, .ref a_t_script, .int (zi c_t_scriptSize), .int (zi c_t_spot), .ref a_t_read, .int (zi c_t_readHigh), .int (zi c_t_readWide), .ref a_t_wanted, .ref a_t_level, .ref a_t_chosen, .ref a_t_best])), (a_t_now, zI J 243 f_t_now), (a_t_wanted, zI J 16 q11.2)] rfl ?_
        cases hsh
        exact z_iret rfl dX9_bucketsFor_44 ⟨rfl, rfl⟩
      · replace hsh := zif_f q hsh
        refine z_iconst (pc' := 37) dX9_bucketsFor_36 rfl ?_
        refine z_perm [(a_t, .inr (8, [.int (zi q8.2), .int (zi c_t_high), .int (zi c_t_wide), .ref a_t_now, .ref a_t_trial, .ref a_t_diary, .int (zi c_t_acts), .int (zi c_t_next), .ref a_t_kept, .ref a_t_isKept, .ref a_t_script, .int (zi c_t_scriptSize), .int (zi c_t_spot), .ref a_t_read, .int (zi c_t_readHigh), .int (zi c_t_readWide), .ref a_t_wanted, .ref a_t_level, .ref a_t_chosen, .ref a_t_best])), (a_t_now, zI J 243 f_t_now), (a_t_wanted, zI J 16 f_t_wanted)] [(0, .ref a_t), (1, .int (zi p0)), (2, .int (zi p1))] [2, 0, 1] [0, 1, 2] rfl rfl rfl ?_
        cases hsh
        exact z_iret rfl dX9_bucketsFor_37 ⟨rfl, rfl⟩
    · replace hsh := zif_t q hsh
      refine z_iconst (pc' := 26) dX9_bucketsFor_25 rfl ?_
      refine z_goto (tgt := 30) dX9_bucketsFor_26 (by decide) ?_
      obtain ⟨q13, h14, hsh⟩ := zbind hsh
      refine z_callV (pc' := 33) (C := RX9) (As := [.int (zi (2 : Int))]) (rest := []) (wr := [(a_t_now, zI J 243 f_t_now), (a_t_wanted, zI J 16 f_t_wanted)]) 1 (zc_X9_refused l D J F (a_t := a_t) (a_t_now := a_t_now) (a_t_trial := a_t_trial) (a_t_diary := a_t_diary) (a_t_kept := a_t_kept) (a_t_isKept := a_t_isKept) (a_t_script := a_t_script) (a_t_read := a_t_read) (a_t_wanted := a_t_wanted) (a_t_level := a_t_level) (a_t_chosen := a_t_chosen) (a_t_best := a_t_best) (c_t_refusal := c_t_refusal) (c_t_high := c_t_high) (c_t_wide := c_t_wide) (c_t_acts := c_t_acts) (c_t_next := c_t_next) (c_t_scriptSize := c_t_scriptSize) (c_t_spot := c_t_spot) (c_t_readHigh := c_t_readHigh) (c_t_readWide := c_t_readWide) (p0 := (2 : Int))  q13 h14) dX9_bucketsFor_30 gX9_bucketsFor_X9_refused rfl rfl rfl (by decide +kernel) ⟨Nat.le_of_ble_eq_true rfl, Nat.le_of_ble_eq_true rfl⟩ ⟨Nat.le_of_ble_eq_true rfl, Nat.le_of_ble_eq_true rfl⟩ (z_spl_of [2, 0, 1] rfl rfl) rfl rfl rfl rfl (Nat.le_of_ble_eq_true rfl) rfl (fun rv w9 hq => ?_)
      obtain ⟨rfl, rfl⟩ := hq
      refine z_ws [(a_t_now, zI J 243 f_t_now), (a_t_wanted, zI J 16 f_t_wanted), (a_t, .inr (8, [.int (zi q13.2), .int (zi c_t_high), .int (zi c_t_wide), .ref a_t_now, .ref a_t_trial, .ref a_t_diary, .int (zi c_t_acts), .int (zi c_t_next), .ref a_t_kept, .ref a_t_isKept, .ref a_t_script, .int (zi c_t_scriptSize), .int (zi c_t_spot), .ref a_t_read, .int (zi c_t_readHigh), .int (zi c_t_readWide), .ref a_t_wanted, .ref a_t_level, .ref a_t_chosen, .ref a_t_best]))] rfl ?_
      have g15 := zkr_p hsh
      replace hsh := zkr_k hsh
      refine z_if_eq (pc' := 36) (tgt := 38) dX9_bucketsFor_33 (by decide) g15 rfl (fun q => ?_) (fun q => ?_)
      · replace hsh := zif_t q hsh
        refine z_aload_n (pc' := 39) 0 dX9_bucketsFor_38 rfl rfl rfl ?_
        refine z_iload_n (pc' := 40) 1 dX9_bucketsFor_39 rfl rfl rfl ?_
        refine z_iload_n (pc' := 41) 2 dX9_bucketsFor_40 rfl rfl rfl ?_
        obtain ⟨q16, h17, hsh⟩ := zbind hsh
        refine z_callV (pc' := 44) (C := RX9) (As := [.int (zi p0), .int (zi p1)]) (rest := []) (wr := []) 2 (zc_X9_fewest l D J F (a_t := a_t) (a_t_now := a_t_now) (a_t_trial := a_t_trial) (a_t_diary := a_t_diary) (a_t_kept := a_t_kept) (a_t_isKept := a_t_isKept) (a_t_script := a_t_script) (a_t_read := a_t_read) (a_t_wanted := a_t_wanted) (a_t_level := a_t_level) (a_t_chosen := a_t_chosen) (a_t_best := a_t_best) (c_t_refusal := q13.2) (c_t_high := c_t_high) (c_t_wide := c_t_wide) (c_t_acts := c_t_acts) (c_t_next := c_t_next) (c_t_scriptSize := c_t_scriptSize) (c_t_spot := c_t_spot) (c_t_readHigh := c_t_readHigh) (c_t_readWide := c_t_readWide) (f_t_now := f_t_now) (f_t_wanted := f_t_wanted) (p0 := p0) (p1 := p1)  q16 h17) dX9_bucketsFor_41 gX9_bucketsFor_X9_fewest rfl rfl rfl (by decide +kernel) ⟨Nat.le_of_ble_eq_true rfl, Nat.le_of_ble_eq_true rfl⟩ ⟨Nat.le_of_ble_eq_true rfl, Nat.le_of_ble_eq_true rfl⟩ (z_spl_of [2, 0, 1] rfl rfl) rfl rfl rfl rfl (Nat.le_of_ble_eq_true rfl) rfl (fun rv w9 hq => ?_)
        obtain ⟨rfl, rfl⟩ := hq
        refine z_ws [(a_t, .inr (8, [.int (zi q13.2), .int (zi c_t_high), .int (zi c_t_wide), .ref a_t_now, .ref a_t_trial, .ref a_t_diary, .int (zi c_t_acts), .int (zi c_t_next), .ref a_t_kept, .ref a_t_isKept, .ref a_t_script, .int (zi c_t_scriptSize), .int (zi c_t_spot), .ref a_t_read, .int (zi c_t_readHigh), .int (zi c_t_readWide), .ref a_t_wanted, .ref a_t_level, .ref a_t_chosen, .ref a_t_best])), (a_t_now, zI J 243 f_t_now), (a_t_wanted, zI J 16 q16.2)] rfl ?_
        cases hsh
        exact z_iret rfl dX9_bucketsFor_44 ⟨rfl, rfl⟩
      · replace hsh := zif_f q hsh
        refine z_iconst (pc' := 37) dX9_bucketsFor_36 rfl ?_
        refine z_perm [(a_t, .inr (8, [.int (zi q13.2), .int (zi c_t_high), .int (zi c_t_wide), .ref a_t_now, .ref a_t_trial, .ref a_t_diary, .int (zi c_t_acts), .int (zi c_t_next), .ref a_t_kept, .ref a_t_isKept, .ref a_t_script, .int (zi c_t_scriptSize), .int (zi c_t_spot), .ref a_t_read, .int (zi c_t_readHigh), .int (zi c_t_readWide), .ref a_t_wanted, .ref a_t_level, .ref a_t_chosen, .ref a_t_best])), (a_t_now, zI J 243 f_t_now), (a_t_wanted, zI J 16 f_t_wanted)] [(0, .ref a_t), (1, .int (zi p0)), (2, .int (zi p1))] [2, 0, 1] [0, 1, 2] rfl rfl rfl ?_
        cases hsh
        exact z_iret rfl dX9_bucketsFor_37 ⟨rfl, rfl⟩
  · replace hsh := zif_t q hsh
    refine z_iconst (pc' := 10) dX9_bucketsFor_9 rfl ?_
    refine z_goto (tgt := 30) dX9_bucketsFor_10 (by decide) ?_
    obtain ⟨q18, h19, hsh⟩ := zbind hsh
    refine z_callV (pc' := 33) (C := RX9) (As := [.int (zi (1 : Int))]) (rest := []) (wr := [(a_t_now, zI J 243 f_t_now), (a_t_wanted, zI J 16 f_t_wanted)]) 1 (zc_X9_refused l D J F (a_t := a_t) (a_t_now := a_t_now) (a_t_trial := a_t_trial) (a_t_diary := a_t_diary) (a_t_kept := a_t_kept) (a_t_isKept := a_t_isKept) (a_t_script := a_t_script) (a_t_read := a_t_read) (a_t_wanted := a_t_wanted) (a_t_level := a_t_level) (a_t_chosen := a_t_chosen) (a_t_best := a_t_best) (c_t_refusal := c_t_refusal) (c_t_high := c_t_high) (c_t_wide := c_t_wide) (c_t_acts := c_t_acts) (c_t_next := c_t_next) (c_t_scriptSize := c_t_scriptSize) (c_t_spot := c_t_spot) (c_t_readHigh := c_t_readHigh) (c_t_readWide := c_t_readWide) (p0 := (1 : Int))  q18 h19) dX9_bucketsFor_30 gX9_bucketsFor_X9_refused rfl rfl rfl (by decide +kernel) ⟨Nat.le_of_ble_eq_true rfl, Nat.le_of_ble_eq_true rfl⟩ ⟨Nat.le_of_ble_eq_true rfl, Nat.le_of_ble_eq_true rfl⟩ (z_spl_of [2, 0, 1] rfl rfl) rfl rfl rfl rfl (Nat.le_of_ble_eq_true rfl) rfl (fun rv w9 hq => ?_)
    obtain ⟨rfl, rfl⟩ := hq
    refine z_ws [(a_t_now, zI J 243 f_t_now), (a_t_wanted, zI J 16 f_t_wanted), (a_t, .inr (8, [.int (zi q18.2), .int (zi c_t_high), .int (zi c_t_wide), .ref a_t_now, .ref a_t_trial, .ref a_t_diary, .int (zi c_t_acts), .int (zi c_t_next), .ref a_t_kept, .ref a_t_isKept, .ref a_t_script, .int (zi c_t_scriptSize), .int (zi c_t_spot), .ref a_t_read, .int (zi c_t_readHigh), .int (zi c_t_readWide), .ref a_t_wanted, .ref a_t_level, .ref a_t_chosen, .ref a_t_best]))] rfl ?_
    have g20 := zkr_p hsh
    replace hsh := zkr_k hsh
    refine z_if_eq (pc' := 36) (tgt := 38) dX9_bucketsFor_33 (by decide) g20 rfl (fun q => ?_) (fun q => ?_)
    · replace hsh := zif_t q hsh
      refine z_aload_n (pc' := 39) 0 dX9_bucketsFor_38 rfl rfl rfl ?_
      refine z_iload_n (pc' := 40) 1 dX9_bucketsFor_39 rfl rfl rfl ?_
      refine z_iload_n (pc' := 41) 2 dX9_bucketsFor_40 rfl rfl rfl ?_
      obtain ⟨q21, h22, hsh⟩ := zbind hsh
      refine z_callV (pc' := 44) (C := RX9) (As := [.int (zi p0), .int (zi p1)]) (rest := []) (wr := []) 2 (zc_X9_fewest l D J F (a_t := a_t) (a_t_now := a_t_now) (a_t_trial := a_t_trial) (a_t_diary := a_t_diary) (a_t_kept := a_t_kept) (a_t_isKept := a_t_isKept) (a_t_script := a_t_script) (a_t_read := a_t_read) (a_t_wanted := a_t_wanted) (a_t_level := a_t_level) (a_t_chosen := a_t_chosen) (a_t_best := a_t_best) (c_t_refusal := q18.2) (c_t_high := c_t_high) (c_t_wide := c_t_wide) (c_t_acts := c_t_acts) (c_t_next := c_t_next) (c_t_scriptSize := c_t_scriptSize) (c_t_spot := c_t_spot) (c_t_readHigh := c_t_readHigh) (c_t_readWide := c_t_readWide) (f_t_now := f_t_now) (f_t_wanted := f_t_wanted) (p0 := p0) (p1 := p1)  q21 h22) dX9_bucketsFor_41 gX9_bucketsFor_X9_fewest rfl rfl rfl (by decide +kernel) ⟨Nat.le_of_ble_eq_true rfl, Nat.le_of_ble_eq_true rfl⟩ ⟨Nat.le_of_ble_eq_true rfl, Nat.le_of_ble_eq_true rfl⟩ (z_spl_of [2, 0, 1] rfl rfl) rfl rfl rfl rfl (Nat.le_of_ble_eq_true rfl) rfl (fun rv w9 hq => ?_)
      obtain ⟨rfl, rfl⟩ := hq
      refine z_ws [(a_t, .inr (8, [.int (zi q18.2), .int (zi c_t_high), .int (zi c_t_wide), .ref a_t_now, .ref a_t_trial, .ref a_t_diary, .int (zi c_t_acts), .int (zi c_t_next), .ref a_t_kept, .ref a_t_isKept, .ref a_t_script, .int (zi c_t_scriptSize), .int (zi c_t_spot), .ref a_t_read, .int (zi c_t_readHigh), .int (zi c_t_readWide), .ref a_t_wanted, .ref a_t_level, .ref a_t_chosen, .ref a_t_best])), (a_t_now, zI J 243 f_t_now), (a_t_wanted, zI J 16 q21.2)] rfl ?_
      cases hsh
      exact z_iret rfl dX9_bucketsFor_44 ⟨rfl, rfl⟩
    · replace hsh := zif_f q hsh
      refine z_iconst (pc' := 37) dX9_bucketsFor_36 rfl ?_
      refine z_perm [(a_t, .inr (8, [.int (zi q18.2), .int (zi c_t_high), .int (zi c_t_wide), .ref a_t_now, .ref a_t_trial, .ref a_t_diary, .int (zi c_t_acts), .int (zi c_t_next), .ref a_t_kept, .ref a_t_isKept, .ref a_t_script, .int (zi c_t_scriptSize), .int (zi c_t_spot), .ref a_t_read, .int (zi c_t_readHigh), .int (zi c_t_readWide), .ref a_t_wanted, .ref a_t_level, .ref a_t_chosen, .ref a_t_best])), (a_t_now, zI J 243 f_t_now), (a_t_wanted, zI J 16 f_t_wanted)] [(0, .ref a_t), (1, .int (zi p0)), (2, .int (zi p1))] [2, 0, 1] [0, 1, 2] rfl rfl rfl ?_
      cases hsh
      exact z_iret rfl dX9_bucketsFor_37 ⟨rfl, rfl⟩
def sh_X9_mostFrom_L24 (F : Nat) (p0 : Int) (c_t_high : Int) (c_t_wide : Int) (f_t_now : Nat → Int) (k : Int → (Nat → Int) → Option (Int × Int × (Nat → Int))) : Nat → Int → (Nat → Int) → Option (Int × Int × (Nat → Int))
  | 0, _, _ => none
  | N + 1, v10, v11 => (sh_X9_fewest F c_t_high c_t_wide f_t_now v11 p0 (v10 + (1 : Int))).bind (fun (q12 : Int × (Nat → Int)) => zkr q12.1 (if q12.1 = (-9 : Int) then k v10 q12.2 else sh_X9_mostFrom_L24 F p0 c_t_high c_t_wide f_t_now k N (v10 + (1 : Int)) q12.2))
def sh_X9_mostFrom_L24_2 (F : Nat) (p0 : Int) (c_t_high : Int) (c_t_wide : Int) (f_t_now : Nat → Int) (k : Int → (Nat → Int) → Option (Int × Int × (Nat → Int))) : Nat → Int → (Nat → Int) → Option (Int × Int × (Nat → Int))
  | 0, _, _ => none
  | N + 1, v23, v24 => (sh_X9_fewest F c_t_high c_t_wide f_t_now v24 p0 (v23 + (1 : Int))).bind (fun (q25 : Int × (Nat → Int)) => zkr q25.1 (if q25.1 = (-9 : Int) then k v23 q25.2 else sh_X9_mostFrom_L24_2 F p0 c_t_high c_t_wide f_t_now k N (v23 + (1 : Int)) q25.2))
def sh_X9_mostFrom (F : Nat) (c_t_high : Int) (c_t_wide : Int) (f_t_now : Nat → Int) (f_t_wanted : Nat → Int) (p0 : Int) : Option (Int × Int × (Nat → Int)) := (sh_X9_isPoint F c_t_high c_t_wide p0).bind (fun (q1 : Int) => zkr q1 (if q1 = (0 : Int) then (sh_X9_refused F (1 : Int)).bind (fun (q4 : Int × Int) => zkr q4.1 (if q4.1 = (0 : Int) then sh_X9_mostFrom_L24 F p0 c_t_high c_t_wide f_t_now (fun (v15 : Int) (v16 : (Nat → Int)) => some (v15, q4.2, v16)) F (0 : Int) f_t_wanted else some ((0 : Int), q4.2, f_t_wanted))) else (sh_X9_refused F (0 : Int)).bind (fun (q17 : Int × Int) => zkr q17.1 (if q17.1 = (0 : Int) then sh_X9_mostFrom_L24_2 F p0 c_t_high c_t_wide f_t_now (fun (v28 : Int) (v29 : (Nat → Int)) => some (v28, q17.2, v29)) F (0 : Int) f_t_wanted else some ((0 : Int), q17.2, f_t_wanted)))))
set_option maxRecDepth 100000 in
set_option maxHeartbeats 4000000 in
theorem zl_X9_mostFrom_L24 {p : Program} {l : Launch} {e : Env} {s : State} {m : MethodId} {args : Array Value} {below : List Frame} {meth : Method} {c : Code} {A : Nat → Prop} {D : va_G} {J : Nat → ClassId} {F : Nat} {p0 : Int} {c_t_high : Int} {c_t_wide : Int} {f_t_now : Nat → Int} {a_t : Nat} {q4 : Int × Int} {a_t_now : Nat} {a_t_trial : Nat} {a_t_diary : Nat} {c_t_acts : Int} {c_t_next : Int} {a_t_kept : Nat} {a_t_isKept : Nat} {a_t_script : Nat} {c_t_scriptSize : Int} {c_t_spot : Int} {a_t_read : Nat} {c_t_readHigh : Int} {c_t_readWide : Int} {a_t_wanted : Nat} {a_t_level : Nat} {a_t_chosen : Nat} {a_t_best : Nat} {res : Int × Int × (Nat → Int)} {k : Int → (Nat → Int) → Option (Int × Int × (Nat → Int))} (hk : ∀ (v10' : Int) (v11' : (Nat → Int)), k v10' v11' = some res → Z p l e ({ frames := 2, cells := 0, slots := 0, locals := 51 } : Room) s m args below meth c (MQ below (zQ D J A (fun rv w9 => rv = some (.int (zi res.1)) ∧ w9 = [(a_t, .inr (8, [.int (zi res.2.1), .int (zi c_t_high), .int (zi c_t_wide), .ref a_t_now, .ref a_t_trial, .ref a_t_diary, .int (zi c_t_acts), .int (zi c_t_next), .ref a_t_kept, .ref a_t_isKept, .ref a_t_script, .int (zi c_t_scriptSize), .int (zi c_t_spot), .ref a_t_read, .int (zi c_t_readHigh), .int (zi c_t_readWide), .ref a_t_wanted, .ref a_t_level, .ref a_t_chosen, .ref a_t_best])), (a_t_now, zI J 243 f_t_now), (a_t_wanted, zI J 16 res.2.2)])) args s 0 0 A) cX9_mostFrom 3 wsX9_mostFrom RX9 D J A (some .int) (yX9_mostFrom.name, []) 0 0 [(a_t, .inr (8, [.int (zi q4.2), .int (zi c_t_high), .int (zi c_t_wide), .ref a_t_now, .ref a_t_trial, .ref a_t_diary, .int (zi c_t_acts), .int (zi c_t_next), .ref a_t_kept, .ref a_t_isKept, .ref a_t_script, .int (zi c_t_scriptSize), .int (zi c_t_spot), .ref a_t_read, .int (zi c_t_readHigh), .int (zi c_t_readWide), .ref a_t_wanted, .ref a_t_level, .ref a_t_chosen, .ref a_t_best])), (a_t_now, zI J 243 f_t_now), (a_t_wanted, zI J 16 v11')] [(2, .int (zi v10'))] 43 []) : ∀ (N : Nat) (v10 : Int) (v11 : (Nat → Int)), sh_X9_mostFrom_L24 F p0 c_t_high c_t_wide f_t_now k N v10 v11 = some res → Z p l e ({ frames := 2, cells := 0, slots := 0, locals := 51 } : Room) s m args below meth c (MQ below (zQ D J A (fun rv w9 => rv = some (.int (zi res.1)) ∧ w9 = [(a_t, .inr (8, [.int (zi res.2.1), .int (zi c_t_high), .int (zi c_t_wide), .ref a_t_now, .ref a_t_trial, .ref a_t_diary, .int (zi c_t_acts), .int (zi c_t_next), .ref a_t_kept, .ref a_t_isKept, .ref a_t_script, .int (zi c_t_scriptSize), .int (zi c_t_spot), .ref a_t_read, .int (zi c_t_readHigh), .int (zi c_t_readWide), .ref a_t_wanted, .ref a_t_level, .ref a_t_chosen, .ref a_t_best])), (a_t_now, zI J 243 f_t_now), (a_t_wanted, zI J 16 res.2.2)])) args s 0 0 A) cX9_mostFrom 3 wsX9_mostFrom RX9 D J A (some .int) (yX9_mostFrom.name, []) 0 0 [(a_t, .inr (8, [.int (zi q4.2), .int (zi c_t_high), .int (zi c_t_wide), .ref a_t_now, .ref a_t_trial, .ref a_t_diary, .int (zi c_t_acts), .int (zi c_t_next), .ref a_t_kept, .ref a_t_isKept, .ref a_t_script, .int (zi c_t_scriptSize), .int (zi c_t_spot), .ref a_t_read, .int (zi c_t_readHigh), .int (zi c_t_readWide), .ref a_t_wanted, .ref a_t_level, .ref a_t_chosen, .ref a_t_best])), (a_t_now, zI J 243 f_t_now), (a_t_wanted, zI J 16 v11)] [(0, .ref a_t), (1, .int (zi p0)), (2, .int (zi v10))] 24 [] := by
  intro N
  induction N with
  | zero =>
    intro v10 v11 hsh
    exact absurd hsh (by simp [sh_X9_mostFrom_L24])
  | succ N ih =>
    intro v10 v11 hsh
    rw [sh_X9_mostFrom_L24] at hsh
    refine z_aload_n (pc' := 25) 0 dX9_mostFrom_24 rfl rfl rfl ?_
    refine z_iload_n (pc' := 26) 1 dX9_mostFrom_25 rfl rfl rfl ?_
    refine z_iload_n (pc' := 27) 2 dX9_mostFrom_26 rfl rfl rfl ?_
    refine z_iconst (pc' := 28) dX9_mostFrom_27 rfl ?_
    refine z_iadd (pc' := 29) dX9_mostFrom_28 rfl ?_
    obtain ⟨q12, h13, hsh⟩ := zbind hsh
    refine z_callV (pc' := 32) (C := RX9) (As := [.int (zi p0), .int (zi (v10 + (1 : Int)))]) (rest := []) (wr := []) 2 (zc_X9_fewest l D J F (a_t := a_t) (a_t_now := a_t_now) (a_t_trial := a_t_trial) (a_t_diary := a_t_diary) (a_t_kept := a_t_kept) (a_t_isKept := a_t_isKept) (a_t_script := a_t_script) (a_t_read := a_t_read) (a_t_wanted := a_t_wanted) (a_t_level := a_t_level) (a_t_chosen := a_t_chosen) (a_t_best := a_t_best) (c_t_refusal := q4.2) (c_t_high := c_t_high) (c_t_wide := c_t_wide) (c_t_acts := c_t_acts) (c_t_next := c_t_next) (c_t_scriptSize := c_t_scriptSize) (c_t_spot := c_t_spot) (c_t_readHigh := c_t_readHigh) (c_t_readWide := c_t_readWide) (f_t_now := f_t_now) (f_t_wanted := v11) (p0 := p0) (p1 := (v10 + (1 : Int)))  q12 h13) dX9_mostFrom_29 gX9_mostFrom_X9_fewest rfl rfl rfl (by decide +kernel) ⟨Nat.le_of_ble_eq_true rfl, Nat.le_of_ble_eq_true rfl⟩ ⟨Nat.le_of_ble_eq_true rfl, Nat.le_of_ble_eq_true rfl⟩ (z_spl_of [0, 1, 2] rfl rfl) rfl rfl rfl rfl (Nat.le_of_ble_eq_true rfl) rfl (fun rv w9 hq => ?_)
    obtain ⟨rfl, rfl⟩ := hq
    refine z_ws [(a_t, .inr (8, [.int (zi q4.2), .int (zi c_t_high), .int (zi c_t_wide), .ref a_t_now, .ref a_t_trial, .ref a_t_diary, .int (zi c_t_acts), .int (zi c_t_next), .ref a_t_kept, .ref a_t_isKept, .ref a_t_script, .int (zi c_t_scriptSize), .int (zi c_t_spot), .ref a_t_read, .int (zi c_t_readHigh), .int (zi c_t_readWide), .ref a_t_wanted, .ref a_t_level, .ref a_t_chosen, .ref a_t_best])), (a_t_now, zI J 243 f_t_now), (a_t_wanted, zI J 16 q12.2)] rfl ?_
    refine z_bipush (pc' := 34) dX9_mostFrom_32 (by decide) rfl ?_
    have g14 := zkr_p hsh
    replace hsh := zkr_k hsh
    refine z_icmp_eq (pc' := 37) (tgt := 43) dX9_mostFrom_34 (by decide) g14 (by decide) rfl (fun q => ?_) (fun q => ?_)
    · replace hsh := zif_t q hsh
      refine z_perm [(a_t, .inr (8, [.int (zi q4.2), .int (zi c_t_high), .int (zi c_t_wide), .ref a_t_now, .ref a_t_trial, .ref a_t_diary, .int (zi c_t_acts), .int (zi c_t_next), .ref a_t_kept, .ref a_t_isKept, .ref a_t_script, .int (zi c_t_scriptSize), .int (zi c_t_spot), .ref a_t_read, .int (zi c_t_readHigh), .int (zi c_t_readWide), .ref a_t_wanted, .ref a_t_level, .ref a_t_chosen, .ref a_t_best])), (a_t_now, zI J 243 f_t_now), (a_t_wanted, zI J 16 q12.2)] [(2, .int (zi v10))] [0, 1, 2] [2] rfl rfl rfl ?_
      exact hk _ _ hsh
    · replace hsh := zif_f q hsh
      refine z_iinc (pc' := 40) [(2, .int (zi (v10 + (1 : Int)))), (0, .ref a_t), (1, .int (zi p0))] 2 dX9_mostFrom_37 rfl (by decide) rfl rfl ?_
      refine z_goto (tgt := 24) dX9_mostFrom_40 (by decide) ?_
      refine z_perm [(a_t, .inr (8, [.int (zi q4.2), .int (zi c_t_high), .int (zi c_t_wide), .ref a_t_now, .ref a_t_trial, .ref a_t_diary, .int (zi c_t_acts), .int (zi c_t_next), .ref a_t_kept, .ref a_t_isKept, .ref a_t_script, .int (zi c_t_scriptSize), .int (zi c_t_spot), .ref a_t_read, .int (zi c_t_readHigh), .int (zi c_t_readWide), .ref a_t_wanted, .ref a_t_level, .ref a_t_chosen, .ref a_t_best])), (a_t_now, zI J 243 f_t_now), (a_t_wanted, zI J 16 q12.2)] [(0, .ref a_t), (1, .int (zi p0)), (2, .int (zi (v10 + (1 : Int))))] [0, 1, 2] [1, 2, 0] rfl rfl rfl ?_
      exact ih _ _ hsh
set_option maxRecDepth 100000 in
set_option maxHeartbeats 4000000 in
theorem zl_X9_mostFrom_L24_2 {p : Program} {l : Launch} {e : Env} {s : State} {m : MethodId} {args : Array Value} {below : List Frame} {meth : Method} {c : Code} {A : Nat → Prop} {D : va_G} {J : Nat → ClassId} {F : Nat} {p0 : Int} {c_t_high : Int} {c_t_wide : Int} {f_t_now : Nat → Int} {a_t : Nat} {q17 : Int × Int} {a_t_now : Nat} {a_t_trial : Nat} {a_t_diary : Nat} {c_t_acts : Int} {c_t_next : Int} {a_t_kept : Nat} {a_t_isKept : Nat} {a_t_script : Nat} {c_t_scriptSize : Int} {c_t_spot : Int} {a_t_read : Nat} {c_t_readHigh : Int} {c_t_readWide : Int} {a_t_wanted : Nat} {a_t_level : Nat} {a_t_chosen : Nat} {a_t_best : Nat} {res : Int × Int × (Nat → Int)} {k : Int → (Nat → Int) → Option (Int × Int × (Nat → Int))} (hk : ∀ (v23' : Int) (v24' : (Nat → Int)), k v23' v24' = some res → Z p l e ({ frames := 2, cells := 0, slots := 0, locals := 51 } : Room) s m args below meth c (MQ below (zQ D J A (fun rv w9 => rv = some (.int (zi res.1)) ∧ w9 = [(a_t, .inr (8, [.int (zi res.2.1), .int (zi c_t_high), .int (zi c_t_wide), .ref a_t_now, .ref a_t_trial, .ref a_t_diary, .int (zi c_t_acts), .int (zi c_t_next), .ref a_t_kept, .ref a_t_isKept, .ref a_t_script, .int (zi c_t_scriptSize), .int (zi c_t_spot), .ref a_t_read, .int (zi c_t_readHigh), .int (zi c_t_readWide), .ref a_t_wanted, .ref a_t_level, .ref a_t_chosen, .ref a_t_best])), (a_t_now, zI J 243 f_t_now), (a_t_wanted, zI J 16 res.2.2)])) args s 0 0 A) cX9_mostFrom 3 wsX9_mostFrom RX9 D J A (some .int) (yX9_mostFrom.name, []) 0 0 [(a_t, .inr (8, [.int (zi q17.2), .int (zi c_t_high), .int (zi c_t_wide), .ref a_t_now, .ref a_t_trial, .ref a_t_diary, .int (zi c_t_acts), .int (zi c_t_next), .ref a_t_kept, .ref a_t_isKept, .ref a_t_script, .int (zi c_t_scriptSize), .int (zi c_t_spot), .ref a_t_read, .int (zi c_t_readHigh), .int (zi c_t_readWide), .ref a_t_wanted, .ref a_t_level, .ref a_t_chosen, .ref a_t_best])), (a_t_now, zI J 243 f_t_now), (a_t_wanted, zI J 16 v24')] [(2, .int (zi v23'))] 43 []) : ∀ (N : Nat) (v23 : Int) (v24 : (Nat → Int)), sh_X9_mostFrom_L24_2 F p0 c_t_high c_t_wide f_t_now k N v23 v24 = some res → Z p l e ({ frames := 2, cells := 0, slots := 0, locals := 51 } : Room) s m args below meth c (MQ below (zQ D J A (fun rv w9 => rv = some (.int (zi res.1)) ∧ w9 = [(a_t, .inr (8, [.int (zi res.2.1), .int (zi c_t_high), .int (zi c_t_wide), .ref a_t_now, .ref a_t_trial, .ref a_t_diary, .int (zi c_t_acts), .int (zi c_t_next), .ref a_t_kept, .ref a_t_isKept, .ref a_t_script, .int (zi c_t_scriptSize), .int (zi c_t_spot), .ref a_t_read, .int (zi c_t_readHigh), .int (zi c_t_readWide), .ref a_t_wanted, .ref a_t_level, .ref a_t_chosen, .ref a_t_best])), (a_t_now, zI J 243 f_t_now), (a_t_wanted, zI J 16 res.2.2)])) args s 0 0 A) cX9_mostFrom 3 wsX9_mostFrom RX9 D J A (some .int) (yX9_mostFrom.name, []) 0 0 [(a_t, .inr (8, [.int (zi q17.2), .int (zi c_t_high), .int (zi c_t_wide), .ref a_t_now, .ref a_t_trial, .ref a_t_diary, .int (zi c_t_acts), .int (zi c_t_next), .ref a_t_kept, .ref a_t_isKept, .ref a_t_script, .int (zi c_t_scriptSize), .int (zi c_t_spot), .ref a_t_read, .int (zi c_t_readHigh), .int (zi c_t_readWide), .ref a_t_wanted, .ref a_t_level, .ref a_t_chosen, .ref a_t_best])), (a_t_now, zI J 243 f_t_now), (a_t_wanted, zI J 16 v24)] [(0, .ref a_t), (1, .int (zi p0)), (2, .int (zi v23))] 24 [] := by
  intro N
  induction N with
  | zero =>
    intro v23 v24 hsh
    exact absurd hsh (by simp [sh_X9_mostFrom_L24_2])
  | succ N ih =>
    intro v23 v24 hsh
    rw [sh_X9_mostFrom_L24_2] at hsh
    refine z_aload_n (pc' := 25) 0 dX9_mostFrom_24 rfl rfl rfl ?_
    refine z_iload_n (pc' := 26) 1 dX9_mostFrom_25 rfl rfl rfl ?_
    refine z_iload_n (pc' := 27) 2 dX9_mostFrom_26 rfl rfl rfl ?_
    refine z_iconst (pc' := 28) dX9_mostFrom_27 rfl ?_
    refine z_iadd (pc' := 29) dX9_mostFrom_28 rfl ?_
    obtain ⟨q25, h26, hsh⟩ := zbind hsh
    refine z_callV (pc' := 32) (C := RX9) (As := [.int (zi p0), .int (zi (v23 + (1 : Int)))]) (rest := []) (wr := []) 2 (zc_X9_fewest l D J F (a_t := a_t) (a_t_now := a_t_now) (a_t_trial := a_t_trial) (a_t_diary := a_t_diary) (a_t_kept := a_t_kept) (a_t_isKept := a_t_isKept) (a_t_script := a_t_script) (a_t_read := a_t_read) (a_t_wanted := a_t_wanted) (a_t_level := a_t_level) (a_t_chosen := a_t_chosen) (a_t_best := a_t_best) (c_t_refusal := q17.2) (c_t_high := c_t_high) (c_t_wide := c_t_wide) (c_t_acts := c_t_acts) (c_t_next := c_t_next) (c_t_scriptSize := c_t_scriptSize) (c_t_spot := c_t_spot) (c_t_readHigh := c_t_readHigh) (c_t_readWide := c_t_readWide) (f_t_now := f_t_now) (f_t_wanted := v24) (p0 := p0) (p1 := (v23 + (1 : Int)))  q25 h26) dX9_mostFrom_29 gX9_mostFrom_X9_fewest rfl rfl rfl (by decide +kernel) ⟨Nat.le_of_ble_eq_true rfl, Nat.le_of_ble_eq_true rfl⟩ ⟨Nat.le_of_ble_eq_true rfl, Nat.le_of_ble_eq_true rfl⟩ (z_spl_of [0, 1, 2] rfl rfl) rfl rfl rfl rfl (Nat.le_of_ble_eq_true rfl) rfl (fun rv w9 hq => ?_)
    obtain ⟨rfl, rfl⟩ := hq
    refine z_ws [(a_t, .inr (8, [.int (zi q17.2), .int (zi c_t_high), .int (zi c_t_wide), .ref a_t_now, .ref a_t_trial, .ref a_t_diary, .int (zi c_t_acts), .int (zi c_t_next), .ref a_t_kept, .ref a_t_isKept, .ref a_t_script, .int (zi c_t_scriptSize), .int (zi c_t_spot), .ref a_t_read, .int (zi c_t_readHigh), .int (zi c_t_readWide), .ref a_t_wanted, .ref a_t_level, .ref a_t_chosen, .ref a_t_best])), (a_t_now, zI J 243 f_t_now), (a_t_wanted, zI J 16 q25.2)] rfl ?_
    refine z_bipush (pc' := 34) dX9_mostFrom_32 (by decide) rfl ?_
    have g27 := zkr_p hsh
    replace hsh := zkr_k hsh
    refine z_icmp_eq (pc' := 37) (tgt := 43) dX9_mostFrom_34 (by decide) g27 (by decide) rfl (fun q => ?_) (fun q => ?_)
    · replace hsh := zif_t q hsh
      refine z_perm [(a_t, .inr (8, [.int (zi q17.2), .int (zi c_t_high), .int (zi c_t_wide), .ref a_t_now, .ref a_t_trial, .ref a_t_diary, .int (zi c_t_acts), .int (zi c_t_next), .ref a_t_kept, .ref a_t_isKept, .ref a_t_script, .int (zi c_t_scriptSize), .int (zi c_t_spot), .ref a_t_read, .int (zi c_t_readHigh), .int (zi c_t_readWide), .ref a_t_wanted, .ref a_t_level, .ref a_t_chosen, .ref a_t_best])), (a_t_now, zI J 243 f_t_now), (a_t_wanted, zI J 16 q25.2)] [(2, .int (zi v23))] [0, 1, 2] [2] rfl rfl rfl ?_
      exact hk _ _ hsh
    · replace hsh := zif_f q hsh
      refine z_iinc (pc' := 40) [(2, .int (zi (v23 + (1 : Int)))), (0, .ref a_t), (1, .int (zi p0))] 2 dX9_mostFrom_37 rfl (by decide) rfl rfl ?_
      refine z_goto (tgt := 24) dX9_mostFrom_40 (by decide) ?_
      refine z_perm [(a_t, .inr (8, [.int (zi q17.2), .int (zi c_t_high), .int (zi c_t_wide), .ref a_t_now, .ref a_t_trial, .ref a_t_diary, .int (zi c_t_acts), .int (zi c_t_next), .ref a_t_kept, .ref a_t_isKept, .ref a_t_script, .int (zi c_t_scriptSize), .int (zi c_t_spot), .ref a_t_read, .int (zi c_t_readHigh), .int (zi c_t_readWide), .ref a_t_wanted, .ref a_t_level, .ref a_t_chosen, .ref a_t_best])), (a_t_now, zI J 243 f_t_now), (a_t_wanted, zI J 16 q25.2)] [(0, .ref a_t), (1, .int (zi p0)), (2, .int (zi (v23 + (1 : Int))))] [0, 1, 2] [1, 2, 0] rfl rfl rfl ?_
      exact ih _ _ hsh
set_option maxRecDepth 100000 in
set_option maxHeartbeats 4000000 in
theorem zc_X9_mostFrom (l : Launch) (D : va_G) (J : Nat → ClassId) (F : Nat) (a_t : Nat) (a_t_now : Nat) (a_t_trial : Nat) (a_t_diary : Nat) (a_t_kept : Nat) (a_t_isKept : Nat) (a_t_script : Nat) (a_t_read : Nat) (a_t_wanted : Nat) (a_t_level : Nat) (a_t_chosen : Nat) (a_t_best : Nat) (c_t_refusal : Int) (c_t_high : Int) (c_t_wide : Int) (c_t_acts : Int) (c_t_next : Int) (c_t_scriptSize : Int) (c_t_spot : Int) (c_t_readHigh : Int) (c_t_readWide : Int) (f_t_now : Nat → Int) (f_t_wanted : Nat → Int) (p0 : Int) (res : Int × Int × (Nat → Int)) (hsh : sh_X9_mostFrom F c_t_high c_t_wide f_t_now f_t_wanted p0 = some res) : ZM l D J yX9_mostFrom wsX9_mostFrom ({ frames := 2, cells := 0, slots := 0, locals := 51 } : Room) 0 0 [.ref a_t, .int (zi p0)] [(a_t, .inr (8, [.int (zi c_t_refusal), .int (zi c_t_high), .int (zi c_t_wide), .ref a_t_now, .ref a_t_trial, .ref a_t_diary, .int (zi c_t_acts), .int (zi c_t_next), .ref a_t_kept, .ref a_t_isKept, .ref a_t_script, .int (zi c_t_scriptSize), .int (zi c_t_spot), .ref a_t_read, .int (zi c_t_readHigh), .int (zi c_t_readWide), .ref a_t_wanted, .ref a_t_level, .ref a_t_chosen, .ref a_t_best])), (a_t_now, zI J 243 f_t_now), (a_t_wanted, zI J 16 f_t_wanted)] (fun rv w9 => rv = some (.int (zi res.1)) ∧ w9 = [(a_t, .inr (8, [.int (zi res.2.1), .int (zi c_t_high), .int (zi c_t_wide), .ref a_t_now, .ref a_t_trial, .ref a_t_diary, .int (zi c_t_acts), .int (zi c_t_next), .ref a_t_kept, .ref a_t_isKept, .ref a_t_script, .int (zi c_t_scriptSize), .int (zi c_t_spot), .ref a_t_read, .int (zi c_t_readHigh), .int (zi c_t_readWide), .ref a_t_wanted, .ref a_t_level, .ref a_t_chosen, .ref a_t_best])), (a_t_now, zI J 243 f_t_now), (a_t_wanted, zI J 16 res.2.2)]) := by
  refine z_ofZ (cc := cX9_mostFrom) (maxL := 3) (ret := (some .int)) 0 0 (by decide) rfl (Nat.le_of_ble_eq_true rfl) [(0, .ref a_t), (1, .int (zi p0))] rfl ?_
  intro p e s m args below meth c A
  unfold sh_X9_mostFrom at hsh
  refine z_aload_n (pc' := 1) 0 dX9_mostFrom_0 rfl rfl rfl ?_
  refine z_aload_n (pc' := 2) 0 dX9_mostFrom_1 rfl rfl rfl ?_
  refine z_iload_n (pc' := 3) 1 dX9_mostFrom_2 rfl rfl rfl ?_
  obtain ⟨q1, h2, hsh⟩ := zbind hsh
  refine z_callV (pc' := 6) (C := RX9) (As := [.int (zi p0)]) (rest := [.ref a_t]) (wr := [(a_t_now, zI J 243 f_t_now), (a_t_wanted, zI J 16 f_t_wanted)]) 1 (zc_X9_isPoint l D J F (a_t := a_t) (a_t_now := a_t_now) (a_t_trial := a_t_trial) (a_t_diary := a_t_diary) (a_t_kept := a_t_kept) (a_t_isKept := a_t_isKept) (a_t_script := a_t_script) (a_t_read := a_t_read) (a_t_wanted := a_t_wanted) (a_t_level := a_t_level) (a_t_chosen := a_t_chosen) (a_t_best := a_t_best) (c_t_refusal := c_t_refusal) (c_t_high := c_t_high) (c_t_wide := c_t_wide) (c_t_acts := c_t_acts) (c_t_next := c_t_next) (c_t_scriptSize := c_t_scriptSize) (c_t_spot := c_t_spot) (c_t_readHigh := c_t_readHigh) (c_t_readWide := c_t_readWide) (p0 := p0)  q1 h2) dX9_mostFrom_3 gX9_mostFrom_X9_isPoint rfl rfl rfl (by decide +kernel) ⟨Nat.le_of_ble_eq_true rfl, Nat.le_of_ble_eq_true rfl⟩ ⟨Nat.le_of_ble_eq_true rfl, Nat.le_of_ble_eq_true rfl⟩ (z_spl_of [0, 1, 2] rfl rfl) rfl rfl rfl rfl (Nat.le_of_ble_eq_true rfl) rfl (fun rv w9 hq => ?_)
  obtain ⟨rfl, rfl⟩ := hq
  refine z_ws [(a_t_now, zI J 243 f_t_now), (a_t_wanted, zI J 16 f_t_wanted), (a_t, .inr (8, [.int (zi c_t_refusal), .int (zi c_t_high), .int (zi c_t_wide), .ref a_t_now, .ref a_t_trial, .ref a_t_diary, .int (zi c_t_acts), .int (zi c_t_next), .ref a_t_kept, .ref a_t_isKept, .ref a_t_script, .int (zi c_t_scriptSize), .int (zi c_t_spot), .ref a_t_read, .int (zi c_t_readHigh), .int (zi c_t_readWide), .ref a_t_wanted, .ref a_t_level, .ref a_t_chosen, .ref a_t_best]))] rfl ?_
  have g3 := zkr_p hsh
  replace hsh := zkr_k hsh
  refine z_if_eq (pc' := 9) (tgt := 13) dX9_mostFrom_6 (by decide) g3 rfl (fun q => ?_) (fun q => ?_)
  · replace hsh := zif_t q hsh
    refine z_iconst (pc' := 14) dX9_mostFrom_13 rfl ?_
    obtain ⟨q4, h5, hsh⟩ := zbind hsh
    refine z_callV (pc' := 17) (C := RX9) (As := [.int (zi (1 : Int))]) (rest := []) (wr := [(a_t_now, zI J 243 f_t_now), (a_t_wanted, zI J 16 f_t_wanted)]) 1 (zc_X9_refused l D J F (a_t := a_t) (a_t_now := a_t_now) (a_t_trial := a_t_trial) (a_t_diary := a_t_diary) (a_t_kept := a_t_kept) (a_t_isKept := a_t_isKept) (a_t_script := a_t_script) (a_t_read := a_t_read) (a_t_wanted := a_t_wanted) (a_t_level := a_t_level) (a_t_chosen := a_t_chosen) (a_t_best := a_t_best) (c_t_refusal := c_t_refusal) (c_t_high := c_t_high) (c_t_wide := c_t_wide) (c_t_acts := c_t_acts) (c_t_next := c_t_next) (c_t_scriptSize := c_t_scriptSize) (c_t_spot := c_t_spot) (c_t_readHigh := c_t_readHigh) (c_t_readWide := c_t_readWide) (p0 := (1 : Int))  q4 h5) dX9_mostFrom_14 gX9_mostFrom_X9_refused rfl rfl rfl (by decide +kernel) ⟨Nat.le_of_ble_eq_true rfl, Nat.le_of_ble_eq_true rfl⟩ ⟨Nat.le_of_ble_eq_true rfl, Nat.le_of_ble_eq_true rfl⟩ (z_spl_of [2, 0, 1] rfl rfl) rfl rfl rfl rfl (Nat.le_of_ble_eq_true rfl) rfl (fun rv w9 hq => ?_)
    obtain ⟨rfl, rfl⟩ := hq
    refine z_ws [(a_t_now, zI J 243 f_t_now), (a_t_wanted, zI J 16 f_t_wanted), (a_t, .inr (8, [.int (zi q4.2), .int (zi c_t_high), .int (zi c_t_wide), .ref a_t_now, .ref a_t_trial, .ref a_t_diary, .int (zi c_t_acts), .int (zi c_t_next), .ref a_t_kept, .ref a_t_isKept, .ref a_t_script, .int (zi c_t_scriptSize), .int (zi c_t_spot), .ref a_t_read, .int (zi c_t_readHigh), .int (zi c_t_readWide), .ref a_t_wanted, .ref a_t_level, .ref a_t_chosen, .ref a_t_best]))] rfl ?_
    have g6 := zkr_p hsh
    replace hsh := zkr_k hsh
    refine z_if_eq (pc' := 20) (tgt := 22) dX9_mostFrom_17 (by decide) g6 rfl (fun q => ?_) (fun q => ?_)
    · replace hsh := zif_t q hsh
      refine z_iconst (pc' := 23) dX9_mostFrom_22 rfl ?_
      refine z_istore_n (pc' := 24) [(2, .int (zi (0 : Int))), (0, .ref a_t), (1, .int (zi p0))] dX9_mostFrom_23 rfl (by decide) rfl rfl ?_
      refine z_perm [(a_t, .inr (8, [.int (zi q4.2), .int (zi c_t_high), .int (zi c_t_wide), .ref a_t_now, .ref a_t_trial, .ref a_t_diary, .int (zi c_t_acts), .int (zi c_t_next), .ref a_t_kept, .ref a_t_isKept, .ref a_t_script, .int (zi c_t_scriptSize), .int (zi c_t_spot), .ref a_t_read, .int (zi c_t_readHigh), .int (zi c_t_readWide), .ref a_t_wanted, .ref a_t_level, .ref a_t_chosen, .ref a_t_best])), (a_t_now, zI J 243 f_t_now), (a_t_wanted, zI J 16 f_t_wanted)] [(0, .ref a_t), (1, .int (zi p0)), (2, .int (zi (0 : Int)))] [2, 0, 1] [1, 2, 0] rfl rfl rfl ?_
      refine zl_X9_mostFrom_L24 (F := F) (hk := fun v15 v16 hsh => ?_) _ _ _ hsh
      refine z_iload_n (pc' := 44) 0 dX9_mostFrom_43 rfl rfl rfl ?_
      cases hsh
      exact z_iret rfl dX9_mostFrom_44 ⟨rfl, rfl⟩
    · replace hsh := zif_f q hsh
      refine z_iconst (pc' := 21) dX9_mostFrom_20 rfl ?_
      refine z_perm [(a_t, .inr (8, [.int (zi q4.2), .int (zi c_t_high), .int (zi c_t_wide), .ref a_t_now, .ref a_t_trial, .ref a_t_diary, .int (zi c_t_acts), .int (zi c_t_next), .ref a_t_kept, .ref a_t_isKept, .ref a_t_script, .int (zi c_t_scriptSize), .int (zi c_t_spot), .ref a_t_read, .int (zi c_t_readHigh), .int (zi c_t_readWide), .ref a_t_wanted, .ref a_t_level, .ref a_t_chosen, .ref a_t_best])), (a_t_now, zI J 243 f_t_now), (a_t_wanted, zI J 16 f_t_wanted)] [(0, .ref a_t), (1, .int (zi p0))] [2, 0, 1] [0, 1] rfl rfl rfl ?_
      cases hsh
      exact z_iret rfl dX9_mostFrom_21 ⟨rfl, rfl⟩
  · replace hsh := zif_f q hsh
    refine z_iconst (pc' := 10) dX9_mostFrom_9 rfl ?_
    refine z_goto (tgt := 14) dX9_mostFrom_10 (by decide) ?_
    obtain ⟨q17, h18, hsh⟩ := zbind hsh
    refine z_callV (pc' := 17) (C := RX9) (As := [.int (zi (0 : Int))]) (rest := []) (wr := [(a_t_now, zI J 243 f_t_now), (a_t_wanted, zI J 16 f_t_wanted)]) 1 (zc_X9_refused l D J F (a_t := a_t) (a_t_now := a_t_now) (a_t_trial := a_t_trial) (a_t_diary := a_t_diary) (a_t_kept := a_t_kept) (a_t_isKept := a_t_isKept) (a_t_script := a_t_script) (a_t_read := a_t_read) (a_t_wanted := a_t_wanted) (a_t_level := a_t_level) (a_t_chosen := a_t_chosen) (a_t_best := a_t_best) (c_t_refusal := c_t_refusal) (c_t_high := c_t_high) (c_t_wide := c_t_wide) (c_t_acts := c_t_acts) (c_t_next := c_t_next) (c_t_scriptSize := c_t_scriptSize) (c_t_spot := c_t_spot) (c_t_readHigh := c_t_readHigh) (c_t_readWide := c_t_readWide) (p0 := (0 : Int))  q17 h18) dX9_mostFrom_14 gX9_mostFrom_X9_refused rfl rfl rfl (by decide +kernel) ⟨Nat.le_of_ble_eq_true rfl, Nat.le_of_ble_eq_true rfl⟩ ⟨Nat.le_of_ble_eq_true rfl, Nat.le_of_ble_eq_true rfl⟩ (z_spl_of [2, 0, 1] rfl rfl) rfl rfl rfl rfl (Nat.le_of_ble_eq_true rfl) rfl (fun rv w9 hq => ?_)
    obtain ⟨rfl, rfl⟩ := hq
    refine z_ws [(a_t_now, zI J 243 f_t_now), (a_t_wanted, zI J 16 f_t_wanted), (a_t, .inr (8, [.int (zi q17.2), .int (zi c_t_high), .int (zi c_t_wide), .ref a_t_now, .ref a_t_trial, .ref a_t_diary, .int (zi c_t_acts), .int (zi c_t_next), .ref a_t_kept, .ref a_t_isKept, .ref a_t_script, .int (zi c_t_scriptSize), .int (zi c_t_spot), .ref a_t_read, .int (zi c_t_readHigh), .int (zi c_t_readWide), .ref a_t_wanted, .ref a_t_level, .ref a_t_chosen, .ref a_t_best]))] rfl ?_
    have g19 := zkr_p hsh
    replace hsh := zkr_k hsh
    refine z_if_eq (pc' := 20) (tgt := 22) dX9_mostFrom_17 (by decide) g19 rfl (fun q => ?_) (fun q => ?_)
    · replace hsh := zif_t q hsh
      refine z_iconst (pc' := 23) dX9_mostFrom_22 rfl ?_
      refine z_istore_n (pc' := 24) [(2, .int (zi (0 : Int))), (0, .ref a_t), (1, .int (zi p0))] dX9_mostFrom_23 rfl (by decide) rfl rfl ?_
      refine z_perm [(a_t, .inr (8, [.int (zi q17.2), .int (zi c_t_high), .int (zi c_t_wide), .ref a_t_now, .ref a_t_trial, .ref a_t_diary, .int (zi c_t_acts), .int (zi c_t_next), .ref a_t_kept, .ref a_t_isKept, .ref a_t_script, .int (zi c_t_scriptSize), .int (zi c_t_spot), .ref a_t_read, .int (zi c_t_readHigh), .int (zi c_t_readWide), .ref a_t_wanted, .ref a_t_level, .ref a_t_chosen, .ref a_t_best])), (a_t_now, zI J 243 f_t_now), (a_t_wanted, zI J 16 f_t_wanted)] [(0, .ref a_t), (1, .int (zi p0)), (2, .int (zi (0 : Int)))] [2, 0, 1] [1, 2, 0] rfl rfl rfl ?_
      refine zl_X9_mostFrom_L24_2 (F := F) (hk := fun v28 v29 hsh => ?_) _ _ _ hsh
      refine z_iload_n (pc' := 44) 0 dX9_mostFrom_43 rfl rfl rfl ?_
      cases hsh
      exact z_iret rfl dX9_mostFrom_44 ⟨rfl, rfl⟩
    · replace hsh := zif_f q hsh
      refine z_iconst (pc' := 21) dX9_mostFrom_20 rfl ?_
      refine z_perm [(a_t, .inr (8, [.int (zi q17.2), .int (zi c_t_high), .int (zi c_t_wide), .ref a_t_now, .ref a_t_trial, .ref a_t_diary, .int (zi c_t_acts), .int (zi c_t_next), .ref a_t_kept, .ref a_t_isKept, .ref a_t_script, .int (zi c_t_scriptSize), .int (zi c_t_spot), .ref a_t_read, .int (zi c_t_readHigh), .int (zi c_t_readWide), .ref a_t_wanted, .ref a_t_level, .ref a_t_chosen, .ref a_t_best])), (a_t_now, zI J 243 f_t_now), (a_t_wanted, zI J 16 f_t_wanted)] [(0, .ref a_t), (1, .int (zi p0))] [2, 0, 1] [0, 1] rfl rfl rfl ?_
      cases hsh
      exact z_iret rfl dX9_mostFrom_21 ⟨rfl, rfl⟩
def sh_X9_lookLast_L100 (F : Nat) (p0 : Int) (p1 : Int) (v5 : Int) (v6 : (Nat → Int)) (k : Int → (Nat → Int) → Option ((Nat → Int) × (Nat → Int))) : Nat → Int → (Nat → Int) → Option ((Nat → Int) × (Nat → Int))
  | 0, _, _ => none
  | N + 1, v20, v21 => zkr v20 (zkr p0 (if v20 < p0 then zkx v20 4 (zkx v20 5 (sh_X9_lookLast_L100 F p0 p1 v5 v6 k N (v20 + (1 : Int)) (va_up v21 (v20).toNat ((va_up v6 (p1).toNat v5) (v20).toNat)))) else k v20 v21))
def sh_X9_lookLast_L100_2 (F : Nat) (p0 : Int) (p1 : Int) (v5 : Int) (v6 : (Nat → Int)) (k : Int → (Nat → Int) → Option ((Nat → Int) × (Nat → Int))) : Nat → Int → (Nat → Int) → Option ((Nat → Int) × (Nat → Int))
  | 0, _, _ => none
  | N + 1, v37, v38 => zkr v37 (zkr p0 (if v37 < p0 then zkx v37 4 (zkx v37 5 (sh_X9_lookLast_L100_2 F p0 p1 v5 v6 k N (v37 + (1 : Int)) (va_up v38 (v37).toNat ((va_up v6 (p1).toNat v5) (v37).toNat)))) else k v37 v38))
def sh_X9_lookLast_L9 (F : Nat) (p0 : Int) (p1 : Int) (c_t_high : Int) (c_t_wide : Int) (f_t_level : Nat → Int) (k : Int → (Nat → Int) → (Nat → Int) → Option ((Nat → Int) × (Nat → Int))) : Nat → Int → (Nat → Int) → (Nat → Int) → Option ((Nat → Int) × (Nat → Int))
  | 0, _, _, _ => none
  | N + 1, v5, v6, v7 => (sh_X9_points F c_t_high c_t_wide).bind (fun (q8 : Int) => zkr v5 (zkr q8 (if v5 < q8 then (sh_X9_isReadyIn F c_t_high c_t_wide f_t_level 972 ((243 : Int) * p1) v5).bind (fun (q12 : Int) => zkr q12 (if q12 = (0 : Int) then zkr (v7 ((4 : Int)).toNat) (if (v7 ((4 : Int)).toNat) < (-9 : Int) then zkx p1 4 (sh_X9_lookLast_L100 F p0 p1 v5 v6 (fun (v26 : Int) (v27 : (Nat → Int)) => sh_X9_lookLast_L9 F p0 p1 c_t_high c_t_wide f_t_level k N (v5 + (1 : Int)) (va_up v6 (p1).toNat v5) v27) F (0 : Int) (va_up v7 ((4 : Int)).toNat (-9 : Int))) else sh_X9_lookLast_L9 F p0 p1 c_t_high c_t_wide f_t_level k N (v5 + (1 : Int)) v6 v7) else zkx (((243 : Int) * p1) + (242 : Int)) 972 ((sh_X9_gradeOf F f_t_level 972 ((243 : Int) * p1) v5 (0 : Int)).bind (fun (q29 : Int) => zkr (((f_t_level ((((243 : Int) * p1) + (242 : Int))).toNat) - (f_t_level ((242 : Int)).toNat)) + q29) (zkr (v7 ((4 : Int)).toNat) (if (v7 ((4 : Int)).toNat) < (((f_t_level ((((243 : Int) * p1) + (242 : Int))).toNat) - (f_t_level ((242 : Int)).toNat)) + q29) then zkx p1 4 (sh_X9_lookLast_L100_2 F p0 p1 v5 v6 (fun (v43 : Int) (v44 : (Nat → Int)) => sh_X9_lookLast_L9 F p0 p1 c_t_high c_t_wide f_t_level k N (v5 + (1 : Int)) (va_up v6 (p1).toNat v5) v44) F (0 : Int) (va_up v7 ((4 : Int)).toNat (((f_t_level ((((243 : Int) * p1) + (242 : Int))).toNat) - (f_t_level ((242 : Int)).toNat)) + q29))) else sh_X9_lookLast_L9 F p0 p1 c_t_high c_t_wide f_t_level k N (v5 + (1 : Int)) v6 v7)))))) else k v5 v6 v7)))
def sh_X9_lookLast (F : Nat) (c_t_high : Int) (c_t_wide : Int) (f_t_level : Nat → Int) (f_t_chosen : Nat → Int) (f_t_best : Nat → Int) (p0 : Int) (p1 : Int) : Option ((Nat → Int) × (Nat → Int)) := sh_X9_lookLast_L9 F p0 p1 c_t_high c_t_wide f_t_level (fun (v45 : Int) (v46 : (Nat → Int)) (v47 : (Nat → Int)) => some (v46, v47)) F (0 : Int) f_t_chosen f_t_best
theorem mX9_lookLast_f42 : Cond.fieldLink RX9 42 (TX9 17).1 (TX9 17).2.1 (TX9 17).2.2.1 ∈ wsX9_lookLast := List.mem_of_getElem? (i := 1) rfl
theorem iX9_lookLast_X9 : ∀ w ∈ wsX90, w ∈ wsX9_lookLast := fun _ h => (List.mem_cons_of_mem _ (List.mem_append_right _ h))
theorem mX9_lookLast_f48 : Cond.fieldLink RX9 48 (TX9 19).1 (TX9 19).2.1 (TX9 19).2.2.1 ∈ wsX9_lookLast := List.mem_of_getElem? (i := 2) rfl
theorem mX9_lookLast_f45 : Cond.fieldLink RX9 45 (TX9 18).1 (TX9 18).2.1 (TX9 18).2.2.1 ∈ wsX9_lookLast := List.mem_of_getElem? (i := 3) rfl
set_option maxRecDepth 100000 in
set_option maxHeartbeats 4000000 in
theorem zl_X9_lookLast_L100 {p : Program} {l : Launch} {e : Env} {s : State} {m : MethodId} {args : Array Value} {below : List Frame} {meth : Method} {c : Code} {A : Nat → Prop} {D : va_G} {J : Nat → ClassId} {F : Nat} {p0 : Int} {p1 : Int} {v5 : Int} {v6 : (Nat → Int)} {a_t : Nat} {c_t_refusal : Int} {c_t_high : Int} {c_t_wide : Int} {a_t_now : Nat} {a_t_trial : Nat} {a_t_diary : Nat} {c_t_acts : Int} {c_t_next : Int} {a_t_kept : Nat} {a_t_isKept : Nat} {a_t_script : Nat} {c_t_scriptSize : Int} {c_t_spot : Int} {a_t_read : Nat} {c_t_readHigh : Int} {c_t_readWide : Int} {a_t_wanted : Nat} {a_t_level : Nat} {a_t_chosen : Nat} {a_t_best : Nat} {f_t_level : Nat → Int} {res : (Nat → Int) × (Nat → Int)} {k : Int → (Nat → Int) → Option ((Nat → Int) × (Nat → Int))} (hk : ∀ (v20' : Int) (v21' : (Nat → Int)), k v20' v21' = some res → Z p l e ({ frames := 4, cells := 0, slots := 0, locals := 98 } : Room) s m args below meth c (MQ below (zQ D J A (fun rv w9 => rv = none ∧ w9 = [(a_t, .inr (8, [.int (zi c_t_refusal), .int (zi c_t_high), .int (zi c_t_wide), .ref a_t_now, .ref a_t_trial, .ref a_t_diary, .int (zi c_t_acts), .int (zi c_t_next), .ref a_t_kept, .ref a_t_isKept, .ref a_t_script, .int (zi c_t_scriptSize), .int (zi c_t_spot), .ref a_t_read, .int (zi c_t_readHigh), .int (zi c_t_readWide), .ref a_t_wanted, .ref a_t_level, .ref a_t_chosen, .ref a_t_best])), (a_t_level, zI J 972 f_t_level), (a_t_chosen, zI J 4 res.1), (a_t_best, zI J 5 res.2)])) args s 0 0 A) cX9_lookLast 7 wsX9_lookLast RX9 D J A none (yX9_lookLast.name, []) 0 0 [(a_t, .inr (8, [.int (zi c_t_refusal), .int (zi c_t_high), .int (zi c_t_wide), .ref a_t_now, .ref a_t_trial, .ref a_t_diary, .int (zi c_t_acts), .int (zi c_t_next), .ref a_t_kept, .ref a_t_isKept, .ref a_t_script, .int (zi c_t_scriptSize), .int (zi c_t_spot), .ref a_t_read, .int (zi c_t_readHigh), .int (zi c_t_readWide), .ref a_t_wanted, .ref a_t_level, .ref a_t_chosen, .ref a_t_best])), (a_t_level, zI J 972 f_t_level), (a_t_chosen, zI J 4 (va_up v6 (p1).toNat v5)), (a_t_best, zI J 5 v21')] [(0, .ref a_t), (1, .int (zi p0)), (2, .int (zi p1)), (3, .int (zi ((243 : Int) * p1))), (4, .int (zi v5))] 126 []) : ∀ (N : Nat) (v20 : Int) (v21 : (Nat → Int)), sh_X9_lookLast_L100 F p0 p1 v5 v6 k N v20 v21 = some res → Z p l e ({ frames := 4, cells := 0, slots := 0, locals := 98 } : Room) s m args below meth c (MQ below (zQ D J A (fun rv w9 => rv = none ∧ w9 = [(a_t, .inr (8, [.int (zi c_t_refusal), .int (zi c_t_high), .int (zi c_t_wide), .ref a_t_now, .ref a_t_trial, .ref a_t_diary, .int (zi c_t_acts), .int (zi c_t_next), .ref a_t_kept, .ref a_t_isKept, .ref a_t_script, .int (zi c_t_scriptSize), .int (zi c_t_spot), .ref a_t_read, .int (zi c_t_readHigh), .int (zi c_t_readWide), .ref a_t_wanted, .ref a_t_level, .ref a_t_chosen, .ref a_t_best])), (a_t_level, zI J 972 f_t_level), (a_t_chosen, zI J 4 res.1), (a_t_best, zI J 5 res.2)])) args s 0 0 A) cX9_lookLast 7 wsX9_lookLast RX9 D J A none (yX9_lookLast.name, []) 0 0 [(a_t, .inr (8, [.int (zi c_t_refusal), .int (zi c_t_high), .int (zi c_t_wide), .ref a_t_now, .ref a_t_trial, .ref a_t_diary, .int (zi c_t_acts), .int (zi c_t_next), .ref a_t_kept, .ref a_t_isKept, .ref a_t_script, .int (zi c_t_scriptSize), .int (zi c_t_spot), .ref a_t_read, .int (zi c_t_readHigh), .int (zi c_t_readWide), .ref a_t_wanted, .ref a_t_level, .ref a_t_chosen, .ref a_t_best])), (a_t_level, zI J 972 f_t_level), (a_t_chosen, zI J 4 (va_up v6 (p1).toNat v5)), (a_t_best, zI J 5 v21)] [(0, .ref a_t), (1, .int (zi p0)), (2, .int (zi p1)), (3, .int (zi ((243 : Int) * p1))), (4, .int (zi v5)), (6, .int (zi v20))] 100 [] := by
  intro N
  induction N with
  | zero =>
    intro v20 v21 hsh
    exact absurd hsh (by simp [sh_X9_lookLast_L100])
  | succ N ih =>
    intro v20 v21 hsh
    rw [sh_X9_lookLast_L100] at hsh
    refine z_iload (pc' := 102) 5 dX9_lookLast_100 rfl rfl ?_
    refine z_iload_n (pc' := 103) 1 dX9_lookLast_102 rfl rfl rfl ?_
    have g22 := zkr_p hsh
    replace hsh := zkr_k hsh
    have g23 := zkr_p hsh
    replace hsh := zkr_k hsh
    refine z_icmp_ge (pc' := 106) (tgt := 126) dX9_lookLast_103 (by decide) g22 g23 rfl (fun q => ?_) (fun q => ?_)
    · replace hsh := zif_f q hsh
      refine z_perm [(a_t, .inr (8, [.int (zi c_t_refusal), .int (zi c_t_high), .int (zi c_t_wide), .ref a_t_now, .ref a_t_trial, .ref a_t_diary, .int (zi c_t_acts), .int (zi c_t_next), .ref a_t_kept, .ref a_t_isKept, .ref a_t_script, .int (zi c_t_scriptSize), .int (zi c_t_spot), .ref a_t_read, .int (zi c_t_readHigh), .int (zi c_t_readWide), .ref a_t_wanted, .ref a_t_level, .ref a_t_chosen, .ref a_t_best])), (a_t_level, zI J 972 f_t_level), (a_t_chosen, zI J 4 (va_up v6 (p1).toNat v5)), (a_t_best, zI J 5 v21)] [(0, .ref a_t), (1, .int (zi p0)), (2, .int (zi p1)), (3, .int (zi ((243 : Int) * p1))), (4, .int (zi v5))] [0, 1, 2, 3] [0, 1, 2, 3, 4] rfl rfl rfl ?_
      exact hk _ _ hsh
    · replace hsh := zif_t q hsh
      refine z_aload_n (pc' := 107) 0 dX9_lookLast_106 rfl rfl rfl ?_
      refine z_getfield (pc' := 110) (C := RX9) (T := TX9) (N := 20) 0 19 dX9_lookLast_107 iX9_lookLast_X9 rfl rfl (by decide) mX9_lookLast_f48 rfl rfl ?_
      refine z_iload (pc' := 112) 5 dX9_lookLast_110 rfl rfl ?_
      refine z_aload_n (pc' := 113) 0 dX9_lookLast_112 rfl rfl rfl ?_
      refine z_getfield (pc' := 116) (C := RX9) (T := TX9) (N := 20) 0 18 dX9_lookLast_113 iX9_lookLast_X9 rfl rfl (by decide) mX9_lookLast_f45 rfl rfl ?_
      refine z_iload (pc' := 118) 5 dX9_lookLast_116 rfl rfl ?_
      have g24 := zkx_p hsh
      replace hsh := zkx_k hsh
      refine z_iaload (pc' := 119) 2 dX9_lookLast_118 rfl (by decide) g24 rfl ?_
      have g25 := zkx_p hsh
      replace hsh := zkx_k hsh
      refine z_iastore (pc' := 120) 3 [(a_t, .inr (8, [.int (zi c_t_refusal), .int (zi c_t_high), .int (zi c_t_wide), .ref a_t_now, .ref a_t_trial, .ref a_t_diary, .int (zi c_t_acts), .int (zi c_t_next), .ref a_t_kept, .ref a_t_isKept, .ref a_t_script, .int (zi c_t_scriptSize), .int (zi c_t_spot), .ref a_t_read, .int (zi c_t_readHigh), .int (zi c_t_readWide), .ref a_t_wanted, .ref a_t_level, .ref a_t_chosen, .ref a_t_best])), (a_t_level, zI J 972 f_t_level), (a_t_chosen, zI J 4 (va_up v6 (p1).toNat v5)), (a_t_best, zI J 5 (va_up v21 (v20).toNat ((va_up v6 (p1).toNat v5) (v20).toNat)))] dX9_lookLast_119 rfl (by decide) g25 rfl rfl ?_
      refine z_iinc (pc' := 123) [(6, .int (zi (v20 + (1 : Int)))), (0, .ref a_t), (1, .int (zi p0)), (2, .int (zi p1)), (3, .int (zi ((243 : Int) * p1))), (4, .int (zi v5))] 5 dX9_lookLast_120 rfl (by decide) rfl rfl ?_
      refine z_goto (tgt := 100) dX9_lookLast_123 (by decide) ?_
      refine z_perm [(a_t, .inr (8, [.int (zi c_t_refusal), .int (zi c_t_high), .int (zi c_t_wide), .ref a_t_now, .ref a_t_trial, .ref a_t_diary, .int (zi c_t_acts), .int (zi c_t_next), .ref a_t_kept, .ref a_t_isKept, .ref a_t_script, .int (zi c_t_scriptSize), .int (zi c_t_spot), .ref a_t_read, .int (zi c_t_readHigh), .int (zi c_t_readWide), .ref a_t_wanted, .ref a_t_level, .ref a_t_chosen, .ref a_t_best])), (a_t_level, zI J 972 f_t_level), (a_t_chosen, zI J 4 (va_up v6 (p1).toNat v5)), (a_t_best, zI J 5 (va_up v21 (v20).toNat ((va_up v6 (p1).toNat v5) (v20).toNat)))] [(0, .ref a_t), (1, .int (zi p0)), (2, .int (zi p1)), (3, .int (zi ((243 : Int) * p1))), (4, .int (zi v5)), (6, .int (zi (v20 + (1 : Int))))] [0, 1, 2, 3] [1, 2, 3, 4, 5, 0] rfl rfl rfl ?_
      exact ih _ _ hsh
set_option maxRecDepth 100000 in
set_option maxHeartbeats 4000000 in
theorem zl_X9_lookLast_L100_2 {p : Program} {l : Launch} {e : Env} {s : State} {m : MethodId} {args : Array Value} {below : List Frame} {meth : Method} {c : Code} {A : Nat → Prop} {D : va_G} {J : Nat → ClassId} {F : Nat} {p0 : Int} {p1 : Int} {v5 : Int} {v6 : (Nat → Int)} {a_t : Nat} {c_t_refusal : Int} {c_t_high : Int} {c_t_wide : Int} {a_t_now : Nat} {a_t_trial : Nat} {a_t_diary : Nat} {c_t_acts : Int} {c_t_next : Int} {a_t_kept : Nat} {a_t_isKept : Nat} {a_t_script : Nat} {c_t_scriptSize : Int} {c_t_spot : Int} {a_t_read : Nat} {c_t_readHigh : Int} {c_t_readWide : Int} {a_t_wanted : Nat} {a_t_level : Nat} {a_t_chosen : Nat} {a_t_best : Nat} {f_t_level : Nat → Int} {res : (Nat → Int) × (Nat → Int)} {k : Int → (Nat → Int) → Option ((Nat → Int) × (Nat → Int))} (hk : ∀ (v37' : Int) (v38' : (Nat → Int)), k v37' v38' = some res → Z p l e ({ frames := 4, cells := 0, slots := 0, locals := 98 } : Room) s m args below meth c (MQ below (zQ D J A (fun rv w9 => rv = none ∧ w9 = [(a_t, .inr (8, [.int (zi c_t_refusal), .int (zi c_t_high), .int (zi c_t_wide), .ref a_t_now, .ref a_t_trial, .ref a_t_diary, .int (zi c_t_acts), .int (zi c_t_next), .ref a_t_kept, .ref a_t_isKept, .ref a_t_script, .int (zi c_t_scriptSize), .int (zi c_t_spot), .ref a_t_read, .int (zi c_t_readHigh), .int (zi c_t_readWide), .ref a_t_wanted, .ref a_t_level, .ref a_t_chosen, .ref a_t_best])), (a_t_level, zI J 972 f_t_level), (a_t_chosen, zI J 4 res.1), (a_t_best, zI J 5 res.2)])) args s 0 0 A) cX9_lookLast 7 wsX9_lookLast RX9 D J A none (yX9_lookLast.name, []) 0 0 [(a_t, .inr (8, [.int (zi c_t_refusal), .int (zi c_t_high), .int (zi c_t_wide), .ref a_t_now, .ref a_t_trial, .ref a_t_diary, .int (zi c_t_acts), .int (zi c_t_next), .ref a_t_kept, .ref a_t_isKept, .ref a_t_script, .int (zi c_t_scriptSize), .int (zi c_t_spot), .ref a_t_read, .int (zi c_t_readHigh), .int (zi c_t_readWide), .ref a_t_wanted, .ref a_t_level, .ref a_t_chosen, .ref a_t_best])), (a_t_level, zI J 972 f_t_level), (a_t_chosen, zI J 4 (va_up v6 (p1).toNat v5)), (a_t_best, zI J 5 v38')] [(0, .ref a_t), (1, .int (zi p0)), (2, .int (zi p1)), (3, .int (zi ((243 : Int) * p1))), (4, .int (zi v5))] 126 []) : ∀ (N : Nat) (v37 : Int) (v38 : (Nat → Int)), sh_X9_lookLast_L100_2 F p0 p1 v5 v6 k N v37 v38 = some res → Z p l e ({ frames := 4, cells := 0, slots := 0, locals := 98 } : Room) s m args below meth c (MQ below (zQ D J A (fun rv w9 => rv = none ∧ w9 = [(a_t, .inr (8, [.int (zi c_t_refusal), .int (zi c_t_high), .int (zi c_t_wide), .ref a_t_now, .ref a_t_trial, .ref a_t_diary, .int (zi c_t_acts), .int (zi c_t_next), .ref a_t_kept, .ref a_t_isKept, .ref a_t_script, .int (zi c_t_scriptSize), .int (zi c_t_spot), .ref a_t_read, .int (zi c_t_readHigh), .int (zi c_t_readWide), .ref a_t_wanted, .ref a_t_level, .ref a_t_chosen, .ref a_t_best])), (a_t_level, zI J 972 f_t_level), (a_t_chosen, zI J 4 res.1), (a_t_best, zI J 5 res.2)])) args s 0 0 A) cX9_lookLast 7 wsX9_lookLast RX9 D J A none (yX9_lookLast.name, []) 0 0 [(a_t, .inr (8, [.int (zi c_t_refusal), .int (zi c_t_high), .int (zi c_t_wide), .ref a_t_now, .ref a_t_trial, .ref a_t_diary, .int (zi c_t_acts), .int (zi c_t_next), .ref a_t_kept, .ref a_t_isKept, .ref a_t_script, .int (zi c_t_scriptSize), .int (zi c_t_spot), .ref a_t_read, .int (zi c_t_readHigh), .int (zi c_t_readWide), .ref a_t_wanted, .ref a_t_level, .ref a_t_chosen, .ref a_t_best])), (a_t_level, zI J 972 f_t_level), (a_t_chosen, zI J 4 (va_up v6 (p1).toNat v5)), (a_t_best, zI J 5 v38)] [(0, .ref a_t), (1, .int (zi p0)), (2, .int (zi p1)), (3, .int (zi ((243 : Int) * p1))), (4, .int (zi v5)), (6, .int (zi v37))] 100 [] := by
  intro N
  induction N with
  | zero =>
    intro v37 v38 hsh
    exact absurd hsh (by simp [sh_X9_lookLast_L100_2])
  | succ N ih =>
    intro v37 v38 hsh
    rw [sh_X9_lookLast_L100_2] at hsh
    refine z_iload (pc' := 102) 5 dX9_lookLast_100 rfl rfl ?_
    refine z_iload_n (pc' := 103) 1 dX9_lookLast_102 rfl rfl rfl ?_
    have g39 := zkr_p hsh
    replace hsh := zkr_k hsh
    have g40 := zkr_p hsh
    replace hsh := zkr_k hsh
    refine z_icmp_ge (pc' := 106) (tgt := 126) dX9_lookLast_103 (by decide) g39 g40 rfl (fun q => ?_) (fun q => ?_)
    · replace hsh := zif_f q hsh
      refine z_perm [(a_t, .inr (8, [.int (zi c_t_refusal), .int (zi c_t_high), .int (zi c_t_wide), .ref a_t_now, .ref a_t_trial, .ref a_t_diary, .int (zi c_t_acts), .int (zi c_t_next), .ref a_t_kept, .ref a_t_isKept, .ref a_t_script, .int (zi c_t_scriptSize), .int (zi c_t_spot), .ref a_t_read, .int (zi c_t_readHigh), .int (zi c_t_readWide), .ref a_t_wanted, .ref a_t_level, .ref a_t_chosen, .ref a_t_best])), (a_t_level, zI J 972 f_t_level), (a_t_chosen, zI J 4 (va_up v6 (p1).toNat v5)), (a_t_best, zI J 5 v38)] [(0, .ref a_t), (1, .int (zi p0)), (2, .int (zi p1)), (3, .int (zi ((243 : Int) * p1))), (4, .int (zi v5))] [0, 1, 2, 3] [0, 1, 2, 3, 4] rfl rfl rfl ?_
      exact hk _ _ hsh
    · replace hsh := zif_t q hsh
      refine z_aload_n (pc' := 107) 0 dX9_lookLast_106 rfl rfl rfl ?_
      refine z_getfield (pc' := 110) (C := RX9) (T := TX9) (N := 20) 0 19 dX9_lookLast_107 iX9_lookLast_X9 rfl rfl (by decide) mX9_lookLast_f48 rfl rfl ?_
      refine z_iload (pc' := 112) 5 dX9_lookLast_110 rfl rfl ?_
      refine z_aload_n (pc' := 113) 0 dX9_lookLast_112 rfl rfl rfl ?_
      refine z_getfield (pc' := 116) (C := RX9) (T := TX9) (N := 20) 0 18 dX9_lookLast_113 iX9_lookLast_X9 rfl rfl (by decide) mX9_lookLast_f45 rfl rfl ?_
      refine z_iload (pc' := 118) 5 dX9_lookLast_116 rfl rfl ?_
      have g41 := zkx_p hsh
      replace hsh := zkx_k hsh
      refine z_iaload (pc' := 119) 2 dX9_lookLast_118 rfl (by decide) g41 rfl ?_
      have g42 := zkx_p hsh
      replace hsh := zkx_k hsh
      refine z_iastore (pc' := 120) 3 [(a_t, .inr (8, [.int (zi c_t_refusal), .int (zi c_t_high), .int (zi c_t_wide), .ref a_t_now, .ref a_t_trial, .ref a_t_diary, .int (zi c_t_acts), .int (zi c_t_next), .ref a_t_kept, .ref a_t_isKept, .ref a_t_script, .int (zi c_t_scriptSize), .int (zi c_t_spot), .ref a_t_read, .int (zi c_t_readHigh), .int (zi c_t_readWide), .ref a_t_wanted, .ref a_t_level, .ref a_t_chosen, .ref a_t_best])), (a_t_level, zI J 972 f_t_level), (a_t_chosen, zI J 4 (va_up v6 (p1).toNat v5)), (a_t_best, zI J 5 (va_up v38 (v37).toNat ((va_up v6 (p1).toNat v5) (v37).toNat)))] dX9_lookLast_119 rfl (by decide) g42 rfl rfl ?_
      refine z_iinc (pc' := 123) [(6, .int (zi (v37 + (1 : Int)))), (0, .ref a_t), (1, .int (zi p0)), (2, .int (zi p1)), (3, .int (zi ((243 : Int) * p1))), (4, .int (zi v5))] 5 dX9_lookLast_120 rfl (by decide) rfl rfl ?_
      refine z_goto (tgt := 100) dX9_lookLast_123 (by decide) ?_
      refine z_perm [(a_t, .inr (8, [.int (zi c_t_refusal), .int (zi c_t_high), .int (zi c_t_wide), .ref a_t_now, .ref a_t_trial, .ref a_t_diary, .int (zi c_t_acts), .int (zi c_t_next), .ref a_t_kept, .ref a_t_isKept, .ref a_t_script, .int (zi c_t_scriptSize), .int (zi c_t_spot), .ref a_t_read, .int (zi c_t_readHigh), .int (zi c_t_readWide), .ref a_t_wanted, .ref a_t_level, .ref a_t_chosen, .ref a_t_best])), (a_t_level, zI J 972 f_t_level), (a_t_chosen, zI J 4 (va_up v6 (p1).toNat v5)), (a_t_best, zI J 5 (va_up v38 (v37).toNat ((va_up v6 (p1).toNat v5) (v37).toNat)))] [(0, .ref a_t), (1, .int (zi p0)), (2, .int (zi p1)), (3, .int (zi ((243 : Int) * p1))), (4, .int (zi v5)), (6, .int (zi (v37 + (1 : Int))))] [0, 1, 2, 3] [1, 2, 3, 4, 5, 0] rfl rfl rfl ?_
      exact ih _ _ hsh
set_option maxRecDepth 100000 in
set_option maxHeartbeats 4000000 in
theorem zl_X9_lookLast_L9 {p : Program} {l : Launch} {e : Env} {s : State} {m : MethodId} {args : Array Value} {below : List Frame} {meth : Method} {c : Code} {A : Nat → Prop} {D : va_G} {J : Nat → ClassId} {F : Nat} {p0 : Int} {p1 : Int} {c_t_high : Int} {c_t_wide : Int} {f_t_level : Nat → Int} {a_t : Nat} {c_t_refusal : Int} {a_t_now : Nat} {a_t_trial : Nat} {a_t_diary : Nat} {c_t_acts : Int} {c_t_next : Int} {a_t_kept : Nat} {a_t_isKept : Nat} {a_t_script : Nat} {c_t_scriptSize : Int} {c_t_spot : Int} {a_t_read : Nat} {c_t_readHigh : Int} {c_t_readWide : Int} {a_t_wanted : Nat} {a_t_level : Nat} {a_t_chosen : Nat} {a_t_best : Nat} {res : (Nat → Int) × (Nat → Int)} {k : Int → (Nat → Int) → (Nat → Int) → Option ((Nat → Int) × (Nat → Int))} (hk : ∀ (v5' : Int) (v6' : (Nat → Int)) (v7' : (Nat → Int)), k v5' v6' v7' = some res → Z p l e ({ frames := 4, cells := 0, slots := 0, locals := 98 } : Room) s m args below meth c (MQ below (zQ D J A (fun rv w9 => rv = none ∧ w9 = [(a_t, .inr (8, [.int (zi c_t_refusal), .int (zi c_t_high), .int (zi c_t_wide), .ref a_t_now, .ref a_t_trial, .ref a_t_diary, .int (zi c_t_acts), .int (zi c_t_next), .ref a_t_kept, .ref a_t_isKept, .ref a_t_script, .int (zi c_t_scriptSize), .int (zi c_t_spot), .ref a_t_read, .int (zi c_t_readHigh), .int (zi c_t_readWide), .ref a_t_wanted, .ref a_t_level, .ref a_t_chosen, .ref a_t_best])), (a_t_level, zI J 972 f_t_level), (a_t_chosen, zI J 4 res.1), (a_t_best, zI J 5 res.2)])) args s 0 0 A) cX9_lookLast 7 wsX9_lookLast RX9 D J A none (yX9_lookLast.name, []) 0 0 [(a_t, .inr (8, [.int (zi c_t_refusal), .int (zi c_t_high), .int (zi c_t_wide), .ref a_t_now, .ref a_t_trial, .ref a_t_diary, .int (zi c_t_acts), .int (zi c_t_next), .ref a_t_kept, .ref a_t_isKept, .ref a_t_script, .int (zi c_t_scriptSize), .int (zi c_t_spot), .ref a_t_read, .int (zi c_t_readHigh), .int (zi c_t_readWide), .ref a_t_wanted, .ref a_t_level, .ref a_t_chosen, .ref a_t_best])), (a_t_level, zI J 972 f_t_level), (a_t_chosen, zI J 4 v6'), (a_t_best, zI J 5 v7')] [] 132 []) : ∀ (N : Nat) (v5 : Int) (v6 : (Nat → Int)) (v7 : (Nat → Int)), sh_X9_lookLast_L9 F p0 p1 c_t_high c_t_wide f_t_level k N v5 v6 v7 = some res → Z p l e ({ frames := 4, cells := 0, slots := 0, locals := 98 } : Room) s m args below meth c (MQ below (zQ D J A (fun rv w9 => rv = none ∧ w9 = [(a_t, .inr (8, [.int (zi c_t_refusal), .int (zi c_t_high), .int (zi c_t_wide), .ref a_t_now, .ref a_t_trial, .ref a_t_diary, .int (zi c_t_acts), .int (zi c_t_next), .ref a_t_kept, .ref a_t_isKept, .ref a_t_script, .int (zi c_t_scriptSize), .int (zi c_t_spot), .ref a_t_read, .int (zi c_t_readHigh), .int (zi c_t_readWide), .ref a_t_wanted, .ref a_t_level, .ref a_t_chosen, .ref a_t_best])), (a_t_level, zI J 972 f_t_level), (a_t_chosen, zI J 4 res.1), (a_t_best, zI J 5 res.2)])) args s 0 0 A) cX9_lookLast 7 wsX9_lookLast RX9 D J A none (yX9_lookLast.name, []) 0 0 [(a_t, .inr (8, [.int (zi c_t_refusal), .int (zi c_t_high), .int (zi c_t_wide), .ref a_t_now, .ref a_t_trial, .ref a_t_diary, .int (zi c_t_acts), .int (zi c_t_next), .ref a_t_kept, .ref a_t_isKept, .ref a_t_script, .int (zi c_t_scriptSize), .int (zi c_t_spot), .ref a_t_read, .int (zi c_t_readHigh), .int (zi c_t_readWide), .ref a_t_wanted, .ref a_t_level, .ref a_t_chosen, .ref a_t_best])), (a_t_level, zI J 972 f_t_level), (a_t_chosen, zI J 4 v6), (a_t_best, zI J 5 v7)] [(0, .ref a_t), (1, .int (zi p0)), (2, .int (zi p1)), (3, .int (zi ((243 : Int) * p1))), (4, .int (zi v5))] 9 [] := by
  intro N
  induction N with
  | zero =>
    intro v5 v6 v7 hsh
    exact absurd hsh (by simp [sh_X9_lookLast_L9])
  | succ N ih =>
    intro v5 v6 v7 hsh
    rw [sh_X9_lookLast_L9] at hsh
    refine z_iload (pc' := 11) 4 dX9_lookLast_9 rfl rfl ?_
    refine z_aload_n (pc' := 12) 0 dX9_lookLast_11 rfl rfl rfl ?_
    obtain ⟨q8, h9, hsh⟩ := zbind hsh
    refine z_callV (pc' := 15) (C := RX9) (As := []) (rest := [.int (zi v5)]) (wr := [(a_t_level, zI J 972 f_t_level), (a_t_chosen, zI J 4 v6), (a_t_best, zI J 5 v7)]) 0 (zc_X9_points l D J F (a_t := a_t) (a_t_now := a_t_now) (a_t_trial := a_t_trial) (a_t_diary := a_t_diary) (a_t_kept := a_t_kept) (a_t_isKept := a_t_isKept) (a_t_script := a_t_script) (a_t_read := a_t_read) (a_t_wanted := a_t_wanted) (a_t_level := a_t_level) (a_t_chosen := a_t_chosen) (a_t_best := a_t_best) (c_t_refusal := c_t_refusal) (c_t_high := c_t_high) (c_t_wide := c_t_wide) (c_t_acts := c_t_acts) (c_t_next := c_t_next) (c_t_scriptSize := c_t_scriptSize) (c_t_spot := c_t_spot) (c_t_readHigh := c_t_readHigh) (c_t_readWide := c_t_readWide)  q8 h9) dX9_lookLast_12 gX9_lookLast_X9_points rfl rfl rfl (by decide +kernel) ⟨Nat.le_of_ble_eq_true rfl, Nat.le_of_ble_eq_true rfl⟩ ⟨Nat.le_of_ble_eq_true rfl, Nat.le_of_ble_eq_true rfl⟩ (z_spl_of [0, 1, 2, 3] rfl rfl) rfl rfl rfl rfl (Nat.le_of_ble_eq_true rfl) rfl (fun rv w9 hq => ?_)
    obtain ⟨rfl, rfl⟩ := hq
    refine z_ws [(a_t_level, zI J 972 f_t_level), (a_t_chosen, zI J 4 v6), (a_t_best, zI J 5 v7), (a_t, .inr (8, [.int (zi c_t_refusal), .int (zi c_t_high), .int (zi c_t_wide), .ref a_t_now, .ref a_t_trial, .ref a_t_diary, .int (zi c_t_acts), .int (zi c_t_next), .ref a_t_kept, .ref a_t_isKept, .ref a_t_script, .int (zi c_t_scriptSize), .int (zi c_t_spot), .ref a_t_read, .int (zi c_t_readHigh), .int (zi c_t_readWide), .ref a_t_wanted, .ref a_t_level, .ref a_t_chosen, .ref a_t_best]))] rfl ?_
    have g10 := zkr_p hsh
    replace hsh := zkr_k hsh
    have g11 := zkr_p hsh
    replace hsh := zkr_k hsh
    refine z_icmp_ge (pc' := 18) (tgt := 132) dX9_lookLast_15 (by decide) g10 g11 rfl (fun q => ?_) (fun q => ?_)
    · replace hsh := zif_f q hsh
      refine z_perm [(a_t, .inr (8, [.int (zi c_t_refusal), .int (zi c_t_high), .int (zi c_t_wide), .ref a_t_now, .ref a_t_trial, .ref a_t_diary, .int (zi c_t_acts), .int (zi c_t_next), .ref a_t_kept, .ref a_t_isKept, .ref a_t_script, .int (zi c_t_scriptSize), .int (zi c_t_spot), .ref a_t_read, .int (zi c_t_readHigh), .int (zi c_t_readWide), .ref a_t_wanted, .ref a_t_level, .ref a_t_chosen, .ref a_t_best])), (a_t_level, zI J 972 f_t_level), (a_t_chosen, zI J 4 v6), (a_t_best, zI J 5 v7)] [] [3, 0, 1, 2] [] rfl rfl rfl ?_
      exact hk _ _ _ hsh
    · replace hsh := zif_t q hsh
      refine z_aload_n (pc' := 19) 0 dX9_lookLast_18 rfl rfl rfl ?_
      refine z_aload_n (pc' := 20) 0 dX9_lookLast_19 rfl rfl rfl ?_
      refine z_getfield (pc' := 23) (C := RX9) (T := TX9) (N := 20) 3 17 dX9_lookLast_20 iX9_lookLast_X9 rfl rfl (by decide) mX9_lookLast_f42 rfl rfl ?_
      refine z_iload_n (pc' := 24) 3 dX9_lookLast_23 rfl rfl rfl ?_
      refine z_iload (pc' := 26) 4 dX9_lookLast_24 rfl rfl ?_
      obtain ⟨q12, h13, hsh⟩ := zbind hsh
      refine z_callV (pc' := 29) (C := RX9) (As := [.ref a_t_level, .int (zi ((243 : Int) * p1)), .int (zi v5)]) (rest := []) (wr := [(a_t_chosen, zI J 4 v6), (a_t_best, zI J 5 v7)]) 3 (zc_X9_isReadyIn l D J F (a_t := a_t) (a_p0 := a_t_level) (a_t_now := a_t_now) (a_t_trial := a_t_trial) (a_t_diary := a_t_diary) (a_t_kept := a_t_kept) (a_t_isKept := a_t_isKept) (a_t_script := a_t_script) (a_t_read := a_t_read) (a_t_wanted := a_t_wanted) (a_t_level := a_t_level) (a_t_chosen := a_t_chosen) (a_t_best := a_t_best) (c_t_refusal := c_t_refusal) (c_t_high := c_t_high) (c_t_wide := c_t_wide) (c_t_acts := c_t_acts) (c_t_next := c_t_next) (c_t_scriptSize := c_t_scriptSize) (c_t_spot := c_t_spot) (c_t_readHigh := c_t_readHigh) (c_t_readWide := c_t_readWide) (f_p0 := f_t_level) (n_p0 := 972) (p1 := ((243 : Int) * p1)) (p2 := v5) (hn_p0 := (by decide)) q12 h13) dX9_lookLast_26 gX9_lookLast_X9_isReadyIn rfl rfl rfl (by decide +kernel) ⟨Nat.le_of_ble_eq_true rfl, Nat.le_of_ble_eq_true rfl⟩ ⟨Nat.le_of_ble_eq_true rfl, Nat.le_of_ble_eq_true rfl⟩ (z_spl_of [3, 0, 1, 2] rfl rfl) rfl rfl rfl rfl (Nat.le_of_ble_eq_true rfl) rfl (fun rv w9 hq => ?_)
      obtain ⟨rfl, rfl⟩ := hq
      refine z_ws [(a_t_chosen, zI J 4 v6), (a_t_best, zI J 5 v7), (a_t, .inr (8, [.int (zi c_t_refusal), .int (zi c_t_high), .int (zi c_t_wide), .ref a_t_now, .ref a_t_trial, .ref a_t_diary, .int (zi c_t_acts), .int (zi c_t_next), .ref a_t_kept, .ref a_t_isKept, .ref a_t_script, .int (zi c_t_scriptSize), .int (zi c_t_spot), .ref a_t_read, .int (zi c_t_readHigh), .int (zi c_t_readWide), .ref a_t_wanted, .ref a_t_level, .ref a_t_chosen, .ref a_t_best])), (a_t_level, zI J 972 f_t_level)] rfl ?_
      have g14 := zkr_p hsh
      replace hsh := zkr_k hsh
      refine z_if_eq (pc' := 32) (tgt := 66) dX9_lookLast_29 (by decide) g14 rfl (fun q => ?_) (fun q => ?_)
      · replace hsh := zif_t q hsh
        refine z_bipush (pc' := 68) dX9_lookLast_66 (by decide) rfl ?_
        refine z_istore (pc' := 70) [(5, .int (zi (-9 : Int))), (0, .ref a_t), (1, .int (zi p0)), (2, .int (zi p1)), (3, .int (zi ((243 : Int) * p1))), (4, .int (zi v5))] dX9_lookLast_68 (by decide) rfl rfl ?_
        refine z_iload (pc' := 72) 0 dX9_lookLast_70 rfl rfl ?_
        refine z_aload_n (pc' := 73) 1 dX9_lookLast_72 rfl rfl rfl ?_
        refine z_getfield (pc' := 76) (C := RX9) (T := TX9) (N := 20) 2 19 dX9_lookLast_73 iX9_lookLast_X9 rfl rfl (by decide) mX9_lookLast_f48 rfl rfl ?_
        refine z_iconst (pc' := 77) dX9_lookLast_76 rfl ?_
        refine z_iaload (pc' := 78) 1 dX9_lookLast_77 rfl (by decide) (by decide) rfl ?_
        have g15 := zkr_p hsh
        replace hsh := zkr_k hsh
        refine z_icmp_le (pc' := 81) (tgt := 126) dX9_lookLast_78 (by decide) (by decide) g15 rfl (fun q => ?_) (fun q => ?_)
        · replace hsh := zif_f q hsh
          refine z_iinc (pc' := 129) [(4, .int (zi (v5 + (1 : Int)))), (5, .int (zi (-9 : Int))), (0, .ref a_t), (1, .int (zi p0)), (2, .int (zi p1)), (3, .int (zi ((243 : Int) * p1)))] 5 dX9_lookLast_126 rfl (by decide) rfl rfl ?_
          refine z_goto (tgt := 9) dX9_lookLast_129 (by decide) ?_
          refine z_perm [(a_t, .inr (8, [.int (zi c_t_refusal), .int (zi c_t_high), .int (zi c_t_wide), .ref a_t_now, .ref a_t_trial, .ref a_t_diary, .int (zi c_t_acts), .int (zi c_t_next), .ref a_t_kept, .ref a_t_isKept, .ref a_t_script, .int (zi c_t_scriptSize), .int (zi c_t_spot), .ref a_t_read, .int (zi c_t_readHigh), .int (zi c_t_readWide), .ref a_t_wanted, .ref a_t_level, .ref a_t_chosen, .ref a_t_best])), (a_t_level, zI J 972 f_t_level), (a_t_chosen, zI J 4 v6), (a_t_best, zI J 5 v7)] [(0, .ref a_t), (1, .int (zi p0)), (2, .int (zi p1)), (3, .int (zi ((243 : Int) * p1))), (4, .int (zi (v5 + (1 : Int))))] [2, 3, 0, 1] [2, 3, 4, 5, 0] rfl rfl rfl ?_
          exact ih _ _ _ hsh
        · replace hsh := zif_t q hsh
          refine z_aload_n (pc' := 82) 1 dX9_lookLast_81 rfl rfl rfl ?_
          refine z_getfield (pc' := 85) (C := RX9) (T := TX9) (N := 20) 2 19 dX9_lookLast_82 iX9_lookLast_X9 rfl rfl (by decide) mX9_lookLast_f48 rfl rfl ?_
          refine z_iconst (pc' := 86) dX9_lookLast_85 rfl ?_
          refine z_iload (pc' := 88) 0 dX9_lookLast_86 rfl rfl ?_
          refine z_iastore (pc' := 89) 1 [(a_t_chosen, zI J 4 v6), (a_t_best, zI J 5 (va_up v7 ((4 : Int)).toNat (-9 : Int))), (a_t, .inr (8, [.int (zi c_t_refusal), .int (zi c_t_high), .int (zi c_t_wide), .ref a_t_now, .ref a_t_trial, .ref a_t_diary, .int (zi c_t_acts), .int (zi c_t_next), .ref a_t_kept, .ref a_t_isKept, .ref a_t_script, .int (zi c_t_scriptSize), .int (zi c_t_spot), .ref a_t_read, .int (zi c_t_readHigh), .int (zi c_t_readWide), .ref a_t_wanted, .ref a_t_level, .ref a_t_chosen, .ref a_t_best])), (a_t_level, zI J 972 f_t_level)] dX9_lookLast_88 rfl (by decide) (by decide) rfl rfl ?_
          refine z_aload_n (pc' := 90) 1 dX9_lookLast_89 rfl rfl rfl ?_
          refine z_getfield (pc' := 93) (C := RX9) (T := TX9) (N := 20) 2 18 dX9_lookLast_90 iX9_lookLast_X9 rfl rfl (by decide) mX9_lookLast_f45 rfl rfl ?_
          refine z_iload_n (pc' := 94) 3 dX9_lookLast_93 rfl rfl rfl ?_
          refine z_iload (pc' := 96) 5 dX9_lookLast_94 rfl rfl ?_
          have g16 := zkx_p hsh
          replace hsh := zkx_k hsh
          refine z_iastore (pc' := 97) 0 [(a_t_chosen, zI J 4 (va_up v6 (p1).toNat v5)), (a_t_best, zI J 5 (va_up v7 ((4 : Int)).toNat (-9 : Int))), (a_t, .inr (8, [.int (zi c_t_refusal), .int (zi c_t_high), .int (zi c_t_wide), .ref a_t_now, .ref a_t_trial, .ref a_t_diary, .int (zi c_t_acts), .int (zi c_t_next), .ref a_t_kept, .ref a_t_isKept, .ref a_t_script, .int (zi c_t_scriptSize), .int (zi c_t_spot), .ref a_t_read, .int (zi c_t_readHigh), .int (zi c_t_readWide), .ref a_t_wanted, .ref a_t_level, .ref a_t_chosen, .ref a_t_best])), (a_t_level, zI J 972 f_t_level)] dX9_lookLast_96 rfl (by decide) g16 rfl rfl ?_
          refine z_iconst (pc' := 98) dX9_lookLast_97 rfl ?_
          refine z_istore (pc' := 100) [(6, .int (zi (0 : Int))), (5, .int (zi (-9 : Int))), (0, .ref a_t), (1, .int (zi p0)), (2, .int (zi p1)), (3, .int (zi ((243 : Int) * p1))), (4, .int (zi v5))] dX9_lookLast_98 (by decide) rfl rfl ?_
          refine z_perm [(a_t, .inr (8, [.int (zi c_t_refusal), .int (zi c_t_high), .int (zi c_t_wide), .ref a_t_now, .ref a_t_trial, .ref a_t_diary, .int (zi c_t_acts), .int (zi c_t_next), .ref a_t_kept, .ref a_t_isKept, .ref a_t_script, .int (zi c_t_scriptSize), .int (zi c_t_spot), .ref a_t_read, .int (zi c_t_readHigh), .int (zi c_t_readWide), .ref a_t_wanted, .ref a_t_level, .ref a_t_chosen, .ref a_t_best])), (a_t_level, zI J 972 f_t_level), (a_t_chosen, zI J 4 (va_up v6 (p1).toNat v5)), (a_t_best, zI J 5 (va_up v7 ((4 : Int)).toNat (-9 : Int)))] [(0, .ref a_t), (1, .int (zi p0)), (2, .int (zi p1)), (3, .int (zi ((243 : Int) * p1))), (4, .int (zi v5)), (6, .int (zi (0 : Int)))] [2, 3, 0, 1] [2, 3, 4, 5, 6, 0] rfl rfl rfl ?_
          refine zl_X9_lookLast_L100 (F := F) (hk := fun v26 v27 hsh => ?_) _ _ _ hsh
          refine z_iinc (pc' := 129) [(4, .int (zi (v5 + (1 : Int)))), (0, .ref a_t), (1, .int (zi p0)), (2, .int (zi p1)), (3, .int (zi ((243 : Int) * p1)))] 4 dX9_lookLast_126 rfl (by decide) rfl rfl ?_
          refine z_goto (tgt := 9) dX9_lookLast_129 (by decide) ?_
          refine z_perm [(a_t, .inr (8, [.int (zi c_t_refusal), .int (zi c_t_high), .int (zi c_t_wide), .ref a_t_now, .ref a_t_trial, .ref a_t_diary, .int (zi c_t_acts), .int (zi c_t_next), .ref a_t_kept, .ref a_t_isKept, .ref a_t_script, .int (zi c_t_scriptSize), .int (zi c_t_spot), .ref a_t_read, .int (zi c_t_readHigh), .int (zi c_t_readWide), .ref a_t_wanted, .ref a_t_level, .ref a_t_chosen, .ref a_t_best])), (a_t_level, zI J 972 f_t_level), (a_t_chosen, zI J 4 (va_up v6 (p1).toNat v5)), (a_t_best, zI J 5 v27)] [(0, .ref a_t), (1, .int (zi p0)), (2, .int (zi p1)), (3, .int (zi ((243 : Int) * p1))), (4, .int (zi (v5 + (1 : Int))))] [0, 1, 2, 3] [1, 2, 3, 4, 0] rfl rfl rfl ?_
          exact ih _ _ _ hsh
      · replace hsh := zif_f q hsh
        refine z_aload_n (pc' := 33) 0 dX9_lookLast_32 rfl rfl rfl ?_
        refine z_getfield (pc' := 36) (C := RX9) (T := TX9) (N := 20) 2 17 dX9_lookLast_33 iX9_lookLast_X9 rfl rfl (by decide) mX9_lookLast_f42 rfl rfl ?_
        refine z_iload_n (pc' := 37) 3 dX9_lookLast_36 rfl rfl rfl ?_
        refine z_sipush (pc' := 40) dX9_lookLast_37 (by decide) rfl ?_
        refine z_iadd (pc' := 41) dX9_lookLast_40 rfl ?_
        have g28 := zkx_p hsh
        replace hsh := zkx_k hsh
        refine z_iaload (pc' := 42) 3 dX9_lookLast_41 rfl (by decide) g28 rfl ?_
        refine z_aload_n (pc' := 43) 0 dX9_lookLast_42 rfl rfl rfl ?_
        refine z_getfield (pc' := 46) (C := RX9) (T := TX9) (N := 20) 2 17 dX9_lookLast_43 iX9_lookLast_X9 rfl rfl (by decide) mX9_lookLast_f42 rfl rfl ?_
        refine z_sipush (pc' := 49) dX9_lookLast_46 (by decide) rfl ?_
        refine z_iaload (pc' := 50) 3 dX9_lookLast_49 rfl (by decide) (by decide) rfl ?_
        refine z_isub (pc' := 51) dX9_lookLast_50 rfl ?_
        refine z_aload_n (pc' := 52) 0 dX9_lookLast_51 rfl rfl rfl ?_
        refine z_getfield (pc' := 55) (C := RX9) (T := TX9) (N := 20) 2 17 dX9_lookLast_52 iX9_lookLast_X9 rfl rfl (by decide) mX9_lookLast_f42 rfl rfl ?_
        refine z_iload_n (pc' := 56) 3 dX9_lookLast_55 rfl rfl rfl ?_
        refine z_iload (pc' := 58) 4 dX9_lookLast_56 rfl rfl ?_
        refine z_iconst (pc' := 59) dX9_lookLast_58 rfl ?_
        obtain ⟨q29, h30, hsh⟩ := zbind hsh
        refine z_callS (pc' := 62) (As := [.ref a_t_level, .int (zi ((243 : Int) * p1)), .int (zi v5), .int (zi (0 : Int))]) (rest := [.int (zi ((f_t_level ((((243 : Int) * p1) + (242 : Int))).toNat) - (f_t_level ((242 : Int)).toNat)))]) (wr := [(a_t_chosen, zI J 4 v6), (a_t_best, zI J 5 v7), (a_t, .inr (8, [.int (zi c_t_refusal), .int (zi c_t_high), .int (zi c_t_wide), .ref a_t_now, .ref a_t_trial, .ref a_t_diary, .int (zi c_t_acts), .int (zi c_t_next), .ref a_t_kept, .ref a_t_isKept, .ref a_t_script, .int (zi c_t_scriptSize), .int (zi c_t_spot), .ref a_t_read, .int (zi c_t_readHigh), .int (zi c_t_readWide), .ref a_t_wanted, .ref a_t_level, .ref a_t_chosen, .ref a_t_best]))]) 4 (zc_X9_gradeOf l D J F (a_p0 := a_t_level) (f_p0 := f_t_level) (n_p0 := 972) (p1 := ((243 : Int) * p1)) (p2 := v5) (p3 := (0 : Int)) (hn_p0 := (by decide)) q29 h30) dX9_lookLast_59 gX9_lookLast_X9_gradeOf rfl rfl rfl (by decide +kernel) ⟨Nat.le_of_ble_eq_true rfl, Nat.le_of_ble_eq_true rfl⟩ ⟨Nat.le_of_ble_eq_true rfl, Nat.le_of_ble_eq_true rfl⟩ (z_spl_of [3, 0, 1, 2] rfl rfl) rfl rfl (Nat.le_of_ble_eq_true rfl) rfl (fun rv w9 hq => ?_)
        obtain ⟨rfl, rfl⟩ := hq
        refine z_ws [(a_t_chosen, zI J 4 v6), (a_t_best, zI J 5 v7), (a_t, .inr (8, [.int (zi c_t_refusal), .int (zi c_t_high), .int (zi c_t_wide), .ref a_t_now, .ref a_t_trial, .ref a_t_diary, .int (zi c_t_acts), .int (zi c_t_next), .ref a_t_kept, .ref a_t_isKept, .ref a_t_script, .int (zi c_t_scriptSize), .int (zi c_t_spot), .ref a_t_read, .int (zi c_t_readHigh), .int (zi c_t_readWide), .ref a_t_wanted, .ref a_t_level, .ref a_t_chosen, .ref a_t_best])), (a_t_level, zI J 972 f_t_level)] rfl ?_
        refine z_iadd (pc' := 63) dX9_lookLast_62 rfl ?_
        refine z_goto (tgt := 68) dX9_lookLast_63 (by decide) ?_
        refine z_istore (pc' := 70) [(5, .int (zi (((f_t_level ((((243 : Int) * p1) + (242 : Int))).toNat) - (f_t_level ((242 : Int)).toNat)) + q29))), (0, .ref a_t), (1, .int (zi p0)), (2, .int (zi p1)), (3, .int (zi ((243 : Int) * p1))), (4, .int (zi v5))] dX9_lookLast_68 (by decide) rfl rfl ?_
        refine z_iload (pc' := 72) 0 dX9_lookLast_70 rfl rfl ?_
        refine z_aload_n (pc' := 73) 1 dX9_lookLast_72 rfl rfl rfl ?_
        refine z_getfield (pc' := 76) (C := RX9) (T := TX9) (N := 20) 2 19 dX9_lookLast_73 iX9_lookLast_X9 rfl rfl (by decide) mX9_lookLast_f48 rfl rfl ?_
        refine z_iconst (pc' := 77) dX9_lookLast_76 rfl ?_
        refine z_iaload (pc' := 78) 1 dX9_lookLast_77 rfl (by decide) (by decide) rfl ?_
        have g31 := zkr_p hsh
        replace hsh := zkr_k hsh
        have g32 := zkr_p hsh
        replace hsh := zkr_k hsh
        refine z_icmp_le (pc' := 81) (tgt := 126) dX9_lookLast_78 (by decide) g31 g32 rfl (fun q => ?_) (fun q => ?_)
        · replace hsh := zif_f q hsh
          refine z_iinc (pc' := 129) [(4, .int (zi (v5 + (1 : Int)))), (5, .int (zi (((f_t_level ((((243 : Int) * p1) + (242 : Int))).toNat) - (f_t_level ((242 : Int)).toNat)) + q29))), (0, .ref a_t), (1, .int (zi p0)), (2, .int (zi p1)), (3, .int (zi ((243 : Int) * p1)))] 5 dX9_lookLast_126 rfl (by decide) rfl rfl ?_
          refine z_goto (tgt := 9) dX9_lookLast_129 (by decide) ?_
          refine z_perm [(a_t, .inr (8, [.int (zi c_t_refusal), .int (zi c_t_high), .int (zi c_t_wide), .ref a_t_now, .ref a_t_trial, .ref a_t_diary, .int (zi c_t_acts), .int (zi c_t_next), .ref a_t_kept, .ref a_t_isKept, .ref a_t_script, .int (zi c_t_scriptSize), .int (zi c_t_spot), .ref a_t_read, .int (zi c_t_readHigh), .int (zi c_t_readWide), .ref a_t_wanted, .ref a_t_level, .ref a_t_chosen, .ref a_t_best])), (a_t_level, zI J 972 f_t_level), (a_t_chosen, zI J 4 v6), (a_t_best, zI J 5 v7)] [(0, .ref a_t), (1, .int (zi p0)), (2, .int (zi p1)), (3, .int (zi ((243 : Int) * p1))), (4, .int (zi (v5 + (1 : Int))))] [2, 3, 0, 1] [2, 3, 4, 5, 0] rfl rfl rfl ?_
          exact ih _ _ _ hsh
        · replace hsh := zif_t q hsh
          refine z_aload_n (pc' := 82) 1 dX9_lookLast_81 rfl rfl rfl ?_
          refine z_getfield (pc' := 85) (C := RX9) (T := TX9) (N := 20) 2 19 dX9_lookLast_82 iX9_lookLast_X9 rfl rfl (by decide) mX9_lookLast_f48 rfl rfl ?_
          refine z_iconst (pc' := 86) dX9_lookLast_85 rfl ?_
          refine z_iload (pc' := 88) 0 dX9_lookLast_86 rfl rfl ?_
          refine z_iastore (pc' := 89) 1 [(a_t_chosen, zI J 4 v6), (a_t_best, zI J 5 (va_up v7 ((4 : Int)).toNat (((f_t_level ((((243 : Int) * p1) + (242 : Int))).toNat) - (f_t_level ((242 : Int)).toNat)) + q29))), (a_t, .inr (8, [.int (zi c_t_refusal), .int (zi c_t_high), .int (zi c_t_wide), .ref a_t_now, .ref a_t_trial, .ref a_t_diary, .int (zi c_t_acts), .int (zi c_t_next), .ref a_t_kept, .ref a_t_isKept, .ref a_t_script, .int (zi c_t_scriptSize), .int (zi c_t_spot), .ref a_t_read, .int (zi c_t_readHigh), .int (zi c_t_readWide), .ref a_t_wanted, .ref a_t_level, .ref a_t_chosen, .ref a_t_best])), (a_t_level, zI J 972 f_t_level)] dX9_lookLast_88 rfl (by decide) (by decide) rfl rfl ?_
          refine z_aload_n (pc' := 90) 1 dX9_lookLast_89 rfl rfl rfl ?_
          refine z_getfield (pc' := 93) (C := RX9) (T := TX9) (N := 20) 2 18 dX9_lookLast_90 iX9_lookLast_X9 rfl rfl (by decide) mX9_lookLast_f45 rfl rfl ?_
          refine z_iload_n (pc' := 94) 3 dX9_lookLast_93 rfl rfl rfl ?_
          refine z_iload (pc' := 96) 5 dX9_lookLast_94 rfl rfl ?_
          have g33 := zkx_p hsh
          replace hsh := zkx_k hsh
          refine z_iastore (pc' := 97) 0 [(a_t_chosen, zI J 4 (va_up v6 (p1).toNat v5)), (a_t_best, zI J 5 (va_up v7 ((4 : Int)).toNat (((f_t_level ((((243 : Int) * p1) + (242 : Int))).toNat) - (f_t_level ((242 : Int)).toNat)) + q29))), (a_t, .inr (8, [.int (zi c_t_refusal), .int (zi c_t_high), .int (zi c_t_wide), .ref a_t_now, .ref a_t_trial, .ref a_t_diary, .int (zi c_t_acts), .int (zi c_t_next), .ref a_t_kept, .ref a_t_isKept, .ref a_t_script, .int (zi c_t_scriptSize), .int (zi c_t_spot), .ref a_t_read, .int (zi c_t_readHigh), .int (zi c_t_readWide), .ref a_t_wanted, .ref a_t_level, .ref a_t_chosen, .ref a_t_best])), (a_t_level, zI J 972 f_t_level)] dX9_lookLast_96 rfl (by decide) g33 rfl rfl ?_
          refine z_iconst (pc' := 98) dX9_lookLast_97 rfl ?_
          refine z_istore (pc' := 100) [(6, .int (zi (0 : Int))), (5, .int (zi (((f_t_level ((((243 : Int) * p1) + (242 : Int))).toNat) - (f_t_level ((242 : Int)).toNat)) + q29))), (0, .ref a_t), (1, .int (zi p0)), (2, .int (zi p1)), (3, .int (zi ((243 : Int) * p1))), (4, .int (zi v5))] dX9_lookLast_98 (by decide) rfl rfl ?_
          refine z_perm [(a_t, .inr (8, [.int (zi c_t_refusal), .int (zi c_t_high), .int (zi c_t_wide), .ref a_t_now, .ref a_t_trial, .ref a_t_diary, .int (zi c_t_acts), .int (zi c_t_next), .ref a_t_kept, .ref a_t_isKept, .ref a_t_script, .int (zi c_t_scriptSize), .int (zi c_t_spot), .ref a_t_read, .int (zi c_t_readHigh), .int (zi c_t_readWide), .ref a_t_wanted, .ref a_t_level, .ref a_t_chosen, .ref a_t_best])), (a_t_level, zI J 972 f_t_level), (a_t_chosen, zI J 4 (va_up v6 (p1).toNat v5)), (a_t_best, zI J 5 (va_up v7 ((4 : Int)).toNat (((f_t_level ((((243 : Int) * p1) + (242 : Int))).toNat) - (f_t_level ((242 : Int)).toNat)) + q29)))] [(0, .ref a_t), (1, .int (zi p0)), (2, .int (zi p1)), (3, .int (zi ((243 : Int) * p1))), (4, .int (zi v5)), (6, .int (zi (0 : Int)))] [2, 3, 0, 1] [2, 3, 4, 5, 6, 0] rfl rfl rfl ?_
          refine zl_X9_lookLast_L100_2 (F := F) (hk := fun v43 v44 hsh => ?_) _ _ _ hsh
          refine z_iinc (pc' := 129) [(4, .int (zi (v5 + (1 : Int)))), (0, .ref a_t), (1, .int (zi p0)), (2, .int (zi p1)), (3, .int (zi ((243 : Int) * p1)))] 4 dX9_lookLast_126 rfl (by decide) rfl rfl ?_
          refine z_goto (tgt := 9) dX9_lookLast_129 (by decide) ?_
          refine z_perm [(a_t, .inr (8, [.int (zi c_t_refusal), .int (zi c_t_high), .int (zi c_t_wide), .ref a_t_now, .ref a_t_trial, .ref a_t_diary, .int (zi c_t_acts), .int (zi c_t_next), .ref a_t_kept, .ref a_t_isKept, .ref a_t_script, .int (zi c_t_scriptSize), .int (zi c_t_spot), .ref a_t_read, .int (zi c_t_readHigh), .int (zi c_t_readWide), .ref a_t_wanted, .ref a_t_level, .ref a_t_chosen, .ref a_t_best])), (a_t_level, zI J 972 f_t_level), (a_t_chosen, zI J 4 (va_up v6 (p1).toNat v5)), (a_t_best, zI J 5 v44)] [(0, .ref a_t), (1, .int (zi p0)), (2, .int (zi p1)), (3, .int (zi ((243 : Int) * p1))), (4, .int (zi (v5 + (1 : Int))))] [0, 1, 2, 3] [1, 2, 3, 4, 0] rfl rfl rfl ?_
          exact ih _ _ _ hsh
set_option maxRecDepth 100000 in
set_option maxHeartbeats 4000000 in
theorem zc_X9_lookLast (l : Launch) (D : va_G) (J : Nat → ClassId) (F : Nat) (a_t : Nat) (a_t_now : Nat) (a_t_trial : Nat) (a_t_diary : Nat) (a_t_kept : Nat) (a_t_isKept : Nat) (a_t_script : Nat) (a_t_read : Nat) (a_t_wanted : Nat) (a_t_level : Nat) (a_t_chosen : Nat) (a_t_best : Nat) (c_t_refusal : Int) (c_t_high : Int) (c_t_wide : Int) (c_t_acts : Int) (c_t_next : Int) (c_t_scriptSize : Int) (c_t_spot : Int) (c_t_readHigh : Int) (c_t_readWide : Int) (f_t_level : Nat → Int) (f_t_chosen : Nat → Int) (f_t_best : Nat → Int) (p0 : Int) (p1 : Int) (res : (Nat → Int) × (Nat → Int)) (hsh : sh_X9_lookLast F c_t_high c_t_wide f_t_level f_t_chosen f_t_best p0 p1 = some res) : ZM l D J yX9_lookLast wsX9_lookLast ({ frames := 4, cells := 0, slots := 0, locals := 98 } : Room) 0 0 [.ref a_t, .int (zi p0), .int (zi p1)] [(a_t, .inr (8, [.int (zi c_t_refusal), .int (zi c_t_high), .int (zi c_t_wide), .ref a_t_now, .ref a_t_trial, .ref a_t_diary, .int (zi c_t_acts), .int (zi c_t_next), .ref a_t_kept, .ref a_t_isKept, .ref a_t_script, .int (zi c_t_scriptSize), .int (zi c_t_spot), .ref a_t_read, .int (zi c_t_readHigh), .int (zi c_t_readWide), .ref a_t_wanted, .ref a_t_level, .ref a_t_chosen, .ref a_t_best])), (a_t_level, zI J 972 f_t_level), (a_t_chosen, zI J 4 f_t_chosen), (a_t_best, zI J 5 f_t_best)] (fun rv w9 => rv = none ∧ w9 = [(a_t, .inr (8, [.int (zi c_t_refusal), .int (zi c_t_high), .int (zi c_t_wide), .ref a_t_now, .ref a_t_trial, .ref a_t_diary, .int (zi c_t_acts), .int (zi c_t_next), .ref a_t_kept, .ref a_t_isKept, .ref a_t_script, .int (zi c_t_scriptSize), .int (zi c_t_spot), .ref a_t_read, .int (zi c_t_readHigh), .int (zi c_t_readWide), .ref a_t_wanted, .ref a_t_level, .ref a_t_chosen, .ref a_t_best])), (a_t_level, zI J 972 f_t_level), (a_t_chosen, zI J 4 res.1), (a_t_best, zI J 5 res.2)]) := by
  refine z_ofZ (cc := cX9_lookLast) (maxL := 7) (ret := none) 0 0 (by decide) rfl (Nat.le_of_ble_eq_true rfl) [(0, .ref a_t), (1, .int (zi p0)), (2, .int (zi p1))] rfl ?_
  intro p e s m args below meth c A
  unfold sh_X9_lookLast at hsh
  refine z_sipush (pc' := 3) dX9_lookLast_0 (by decide) rfl ?_
  refine z_iload_n (pc' := 4) 2 dX9_lookLast_3 rfl rfl rfl ?_
  refine z_imul (pc' := 5) dX9_lookLast_4 rfl ?_
  refine z_istore_n (pc' := 6) [(3, .int (zi ((243 : Int) * p1))), (0, .ref a_t), (1, .int (zi p0)), (2, .int (zi p1))] dX9_lookLast_5 rfl (by decide) rfl rfl ?_
  refine z_iconst (pc' := 7) dX9_lookLast_6 rfl ?_
  refine z_istore (pc' := 9) [(4, .int (zi (0 : Int))), (3, .int (zi ((243 : Int) * p1))), (0, .ref a_t), (1, .int (zi p0)), (2, .int (zi p1))] dX9_lookLast_7 (by decide) rfl rfl ?_
  refine z_perm [(a_t, .inr (8, [.int (zi c_t_refusal), .int (zi c_t_high), .int (zi c_t_wide), .ref a_t_now, .ref a_t_trial, .ref a_t_diary, .int (zi c_t_acts), .int (zi c_t_next), .ref a_t_kept, .ref a_t_isKept, .ref a_t_script, .int (zi c_t_scriptSize), .int (zi c_t_spot), .ref a_t_read, .int (zi c_t_readHigh), .int (zi c_t_readWide), .ref a_t_wanted, .ref a_t_level, .ref a_t_chosen, .ref a_t_best])), (a_t_level, zI J 972 f_t_level), (a_t_chosen, zI J 4 f_t_chosen), (a_t_best, zI J 5 f_t_best)] [(0, .ref a_t), (1, .int (zi p0)), (2, .int (zi p1)), (3, .int (zi ((243 : Int) * p1))), (4, .int (zi (0 : Int)))] [0, 1, 2, 3] [2, 3, 4, 1, 0] rfl rfl rfl ?_
  refine zl_X9_lookLast_L9 (F := F) (hk := fun v45 v46 v47 hsh => ?_) _ _ _ _ hsh
  cases hsh
  exact z_vret rfl dX9_lookLast_132 ⟨rfl, rfl⟩
def sh_X9_findBest_L30 (F : Nat) (p0 : Int) (c_t_high : Int) (c_t_wide : Int) (k : Int → (Nat → Int) → (Nat → Int) → (Nat → Int) → Option ((Nat → Int) × (Nat → Int) × (Nat → Int))) : Nat → Int → (Nat → Int) → (Nat → Int) → (Nat → Int) → Option ((Nat → Int) × (Nat → Int) × (Nat → Int))
  | 0, _, _, _, _ => none
  | N + 1, v8, v9, v10, v11 => zkr v8 (if v8 < (0 : Int) then k v8 v9 v10 v11 else zkr (p0 - (1 : Int)) (if v8 = (p0 - (1 : Int)) then (sh_X9_lookLast F c_t_high c_t_wide v9 v10 v11 p0 v8).bind (fun (q28 : (Nat → Int) × (Nat → Int)) => sh_X9_findBest_L30 F p0 c_t_high c_t_wide k N (v8 + (-1 : Int)) v9 q28.1 q28.2) else zkx v8 4 ((sh_X9_points F c_t_high c_t_wide).bind (fun (q15 : Int) => zkr ((va_up v10 (v8).toNat ((v10 (v8).toNat) + (1 : Int))) (v8).toNat) (zkr q15 (if ((va_up v10 (v8).toNat ((v10 (v8).toNat) + (1 : Int))) (v8).toNat) = q15 then sh_X9_findBest_L30 F p0 c_t_high c_t_wide k N (v8 + (-1 : Int)) v9 (va_up v10 (v8).toNat ((v10 (v8).toNat) + (1 : Int))) v11 else (sh_X9_isReadyIn F c_t_high c_t_wide v9 972 ((243 : Int) * v8) ((va_up v10 (v8).toNat ((v10 (v8).toNat) + (1 : Int))) (v8).toNat)).bind (fun (q19 : Int) => zkr q19 (if q19 = (0 : Int) then sh_X9_findBest_L30 F p0 c_t_high c_t_wide k N v8 v9 (va_up v10 (v8).toNat ((v10 (v8).toNat) + (1 : Int))) v11 else (sh_X9_copy_p0p2 F v9 972 ((243 : Int) * v8) (((243 : Int) * v8) + (243 : Int))).bind (fun (q22 : (Nat → Int)) => zkx ((v8 + (1 : Int)) - (1 : Int)) 4 ((sh_X9_take F q22 972 ((243 : Int) * (v8 + (1 : Int))) ((va_up v10 (v8).toNat ((v10 (v8).toNat) + (1 : Int))) (((v8 + (1 : Int)) - (1 : Int))).toNat)).bind (fun (q25 : Int × (Nat → Int)) => zkx (v8 + (1 : Int)) 4 (sh_X9_findBest_L30 F p0 c_t_high c_t_wide k N (v8 + (1 : Int)) q25.2 (va_up (va_up v10 (v8).toNat ((v10 (v8).toNat) + (1 : Int))) ((v8 + (1 : Int))).toNat (-1 : Int)) v11))))))))))))
def sh_X9_findBest (F : Nat) (c_t_high : Int) (c_t_wide : Int) (f_t_now : Nat → Int) (f_t_level : Nat → Int) (f_t_chosen : Nat → Int) (f_t_best : Nat → Int) (p0 : Int) : Option ((Nat → Int) × (Nat → Int) × (Nat → Int)) := (sh_X9_copy F f_t_now f_t_level 243 972 (0 : Int) (0 : Int)).bind (fun (q1 : (Nat → Int)) => sh_X9_findBest_L30 F p0 c_t_high c_t_wide (fun (v30 : Int) (v31 : (Nat → Int)) (v32 : (Nat → Int)) (v33 : (Nat → Int)) => some (v31, v32, v33)) F (0 : Int) q1 (va_up f_t_chosen ((0 : Int)).toNat (-1 : Int)) (va_up f_t_best ((4 : Int)).toNat (-9 : Int)))
theorem mX9_findBest_f48 : Cond.fieldLink RX9 48 (TX9 19).1 (TX9 19).2.1 (TX9 19).2.2.1 ∈ wsX9_findBest := List.mem_of_getElem? (i := 1) rfl
theorem iX9_findBest_X9 : ∀ w ∈ wsX90, w ∈ wsX9_findBest := fun _ h => (List.mem_cons_of_mem _ (List.mem_append_right _ h))
theorem mX9_findBest_f16 : Cond.fieldLink RX9 16 (TX9 3).1 (TX9 3).2.1 (TX9 3).2.2.1 ∈ wsX9_findBest := List.mem_of_getElem? (i := 2) rfl
theorem mX9_findBest_f42 : Cond.fieldLink RX9 42 (TX9 17).1 (TX9 17).2.1 (TX9 17).2.2.1 ∈ wsX9_findBest := List.mem_of_getElem? (i := 3) rfl
theorem mX9_findBest_f45 : Cond.fieldLink RX9 45 (TX9 18).1 (TX9 18).2.1 (TX9 18).2.2.1 ∈ wsX9_findBest := List.mem_of_getElem? (i := 4) rfl
set_option maxRecDepth 100000 in
set_option maxHeartbeats 4000000 in
theorem zl_X9_findBest_L30 {p : Program} {l : Launch} {e : Env} {s : State} {m : MethodId} {args : Array Value} {below : List Frame} {meth : Method} {c : Code} {A : Nat → Prop} {D : va_G} {J : Nat → ClassId} {F : Nat} {p0 : Int} {c_t_high : Int} {c_t_wide : Int} {a_t : Nat} {c_t_refusal : Int} {a_t_now : Nat} {a_t_trial : Nat} {a_t_diary : Nat} {c_t_acts : Int} {c_t_next : Int} {a_t_kept : Nat} {a_t_isKept : Nat} {a_t_script : Nat} {c_t_scriptSize : Int} {c_t_spot : Int} {a_t_read : Nat} {c_t_readHigh : Int} {c_t_readWide : Int} {a_t_wanted : Nat} {a_t_level : Nat} {a_t_chosen : Nat} {a_t_best : Nat} {f_t_now : Nat → Int} {res : (Nat → Int) × (Nat → Int) × (Nat → Int)} {k : Int → (Nat → Int) → (Nat → Int) → (Nat → Int) → Option ((Nat → Int) × (Nat → Int) × (Nat → Int))} (hk : ∀ (v8' : Int) (v9' : (Nat → Int)) (v10' : (Nat → Int)) (v11' : (Nat → Int)), k v8' v9' v10' v11' = some res → Z p l e ({ frames := 5, cells := 0, slots := 0, locals := 124 } : Room) s m args below meth c (MQ below (zQ D J A (fun rv w9 => rv = none ∧ w9 = [(a_t, .inr (8, [.int (zi c_t_refusal), .int (zi c_t_high), .int (zi c_t_wide), .ref a_t_now, .ref a_t_trial, .ref a_t_diary, .int (zi c_t_acts), .int (zi c_t_next), .ref a_t_kept, .ref a_t_isKept, .ref a_t_script, .int (zi c_t_scriptSize), .int (zi c_t_spot), .ref a_t_read, .int (zi c_t_readHigh), .int (zi c_t_readWide), .ref a_t_wanted, .ref a_t_level, .ref a_t_chosen, .ref a_t_best])), (a_t_now, zI J 243 f_t_now), (a_t_level, zI J 972 res.1), (a_t_chosen, zI J 4 res.2.1), (a_t_best, zI J 5 res.2.2)])) args s 0 0 A) cX9_findBest 3 wsX9_findBest RX9 D J A none (yX9_findBest.name, []) 0 0 [(a_t, .inr (8, [.int (zi c_t_refusal), .int (zi c_t_high), .int (zi c_t_wide), .ref a_t_now, .ref a_t_trial, .ref a_t_diary, .int (zi c_t_acts), .int (zi c_t_next), .ref a_t_kept, .ref a_t_isKept, .ref a_t_script, .int (zi c_t_scriptSize), .int (zi c_t_spot), .ref a_t_read, .int (zi c_t_readHigh), .int (zi c_t_readWide), .ref a_t_wanted, .ref a_t_level, .ref a_t_chosen, .ref a_t_best])), (a_t_now, zI J 243 f_t_now), (a_t_level, zI J 972 v9'), (a_t_chosen, zI J 4 v10'), (a_t_best, zI J 5 v11')] [] 163 []) : ∀ (N : Nat) (v8 : Int) (v9 : (Nat → Int)) (v10 : (Nat → Int)) (v11 : (Nat → Int)), sh_X9_findBest_L30 F p0 c_t_high c_t_wide k N v8 v9 v10 v11 = some res → Z p l e ({ frames := 5, cells := 0, slots := 0, locals := 124 } : Room) s m args below meth c (MQ below (zQ D J A (fun rv w9 => rv = none ∧ w9 = [(a_t, .inr (8, [.int (zi c_t_refusal), .int (zi c_t_high), .int (zi c_t_wide), .ref a_t_now, .ref a_t_trial, .ref a_t_diary, .int (zi c_t_acts), .int (zi c_t_next), .ref a_t_kept, .ref a_t_isKept, .ref a_t_script, .int (zi c_t_scriptSize), .int (zi c_t_spot), .ref a_t_read, .int (zi c_t_readHigh), .int (zi c_t_readWide), .ref a_t_wanted, .ref a_t_level, .ref a_t_chosen, .ref a_t_best])), (a_t_now, zI J 243 f_t_now), (a_t_level, zI J 972 res.1), (a_t_chosen, zI J 4 res.2.1), (a_t_best, zI J 5 res.2.2)])) args s 0 0 A) cX9_findBest 3 wsX9_findBest RX9 D J A none (yX9_findBest.name, []) 0 0 [(a_t, .inr (8, [.int (zi c_t_refusal), .int (zi c_t_high), .int (zi c_t_wide), .ref a_t_now, .ref a_t_trial, .ref a_t_diary, .int (zi c_t_acts), .int (zi c_t_next), .ref a_t_kept, .ref a_t_isKept, .ref a_t_script, .int (zi c_t_scriptSize), .int (zi c_t_spot), .ref a_t_read, .int (zi c_t_readHigh), .int (zi c_t_readWide), .ref a_t_wanted, .ref a_t_level, .ref a_t_chosen, .ref a_t_best])), (a_t_now, zI J 243 f_t_now), (a_t_level, zI J 972 v9), (a_t_chosen, zI J 4 v10), (a_t_best, zI J 5 v11)] [(0, .ref a_t), (1, .int (zi p0)), (2, .int (zi v8))] 30 [] := by
  intro N
  induction N with
  | zero =>
    intro v8 v9 v10 v11 hsh
    exact absurd hsh (by simp [sh_X9_findBest_L30])
  | succ N ih =>
    intro v8 v9 v10 v11 hsh
    rw [sh_X9_findBest_L30] at hsh
    refine z_iload_n (pc' := 31) 2 dX9_findBest_30 rfl rfl rfl ?_
    have g12 := zkr_p hsh
    replace hsh := zkr_k hsh
    refine z_if_lt (pc' := 34) (tgt := 163) dX9_findBest_31 (by decide) g12 rfl (fun q => ?_) (fun q => ?_)
    · replace hsh := zif_t q hsh
      refine z_perm [(a_t, .inr (8, [.int (zi c_t_refusal), .int (zi c_t_high), .int (zi c_t_wide), .ref a_t_now, .ref a_t_trial, .ref a_t_diary, .int (zi c_t_acts), .int (zi c_t_next), .ref a_t_kept, .ref a_t_isKept, .ref a_t_script, .int (zi c_t_scriptSize), .int (zi c_t_spot), .ref a_t_read, .int (zi c_t_readHigh), .int (zi c_t_readWide), .ref a_t_wanted, .ref a_t_level, .ref a_t_chosen, .ref a_t_best])), (a_t_now, zI J 243 f_t_now), (a_t_level, zI J 972 v9), (a_t_chosen, zI J 4 v10), (a_t_best, zI J 5 v11)] [] [0, 1, 2, 3, 4] [] rfl rfl rfl ?_
      exact hk _ _ _ _ hsh
    · replace hsh := zif_f q hsh
      refine z_iload_n (pc' := 35) 2 dX9_findBest_34 rfl rfl rfl ?_
      refine z_iload_n (pc' := 36) 1 dX9_findBest_35 rfl rfl rfl ?_
      refine z_iconst (pc' := 37) dX9_findBest_36 rfl ?_
      refine z_isub (pc' := 38) dX9_findBest_37 rfl ?_
      have g13 := zkr_p hsh
      replace hsh := zkr_k hsh
      refine z_icmp_ne (pc' := 41) (tgt := 53) dX9_findBest_38 (by decide) g12 g13 rfl (fun q => ?_) (fun q => ?_)
      · replace hsh := zif_f q hsh
        refine z_aload_n (pc' := 54) 0 dX9_findBest_53 rfl rfl rfl ?_
        refine z_getfield (pc' := 57) (C := RX9) (T := TX9) (N := 20) 0 18 dX9_findBest_54 iX9_findBest_X9 rfl rfl (by decide) mX9_findBest_f45 rfl rfl ?_
        refine z_iload_n (pc' := 58) 2 dX9_findBest_57 rfl rfl rfl ?_
        refine z_dup2 (pc' := 59) dX9_findBest_58 rfl rfl rfl ?_
        have g14 := zkx_p hsh
        replace hsh := zkx_k hsh
        refine z_iaload (pc' := 60) 3 dX9_findBest_59 rfl (by decide) g14 rfl ?_
        refine z_iconst (pc' := 61) dX9_findBest_60 rfl ?_
        refine z_iadd (pc' := 62) dX9_findBest_61 rfl ?_
        refine z_iastore (pc' := 63) 3 [(a_t, .inr (8, [.int (zi c_t_refusal), .int (zi c_t_high), .int (zi c_t_wide), .ref a_t_now, .ref a_t_trial, .ref a_t_diary, .int (zi c_t_acts), .int (zi c_t_next), .ref a_t_kept, .ref a_t_isKept, .ref a_t_script, .int (zi c_t_scriptSize), .int (zi c_t_spot), .ref a_t_read, .int (zi c_t_readHigh), .int (zi c_t_readWide), .ref a_t_wanted, .ref a_t_level, .ref a_t_chosen, .ref a_t_best])), (a_t_now, zI J 243 f_t_now), (a_t_level, zI J 972 v9), (a_t_chosen, zI J 4 (va_up v10 (v8).toNat ((v10 (v8).toNat) + (1 : Int)))), (a_t_best, zI J 5 v11)] dX9_findBest_62 rfl (by decide) g14 rfl rfl ?_
        refine z_aload_n (pc' := 64) 0 dX9_findBest_63 rfl rfl rfl ?_
        refine z_getfield (pc' := 67) (C := RX9) (T := TX9) (N := 20) 0 18 dX9_findBest_64 iX9_findBest_X9 rfl rfl (by decide) mX9_findBest_f45 rfl rfl ?_
        refine z_iload_n (pc' := 68) 2 dX9_findBest_67 rfl rfl rfl ?_
        refine z_iaload (pc' := 69) 3 dX9_findBest_68 rfl (by decide) g14 rfl ?_
        refine z_aload_n (pc' := 70) 0 dX9_findBest_69 rfl rfl rfl ?_
        obtain ⟨q15, h16, hsh⟩ := zbind hsh
        refine z_callV (pc' := 73) (C := RX9) (As := []) (rest := [.int (zi ((va_up v10 (v8).toNat ((v10 (v8).toNat) + (1 : Int))) (v8).toNat))]) (wr := [(a_t_now, zI J 243 f_t_now), (a_t_level, zI J 972 v9), (a_t_chosen, zI J 4 (va_up v10 (v8).toNat ((v10 (v8).toNat) + (1 : Int)))), (a_t_best, zI J 5 v11)]) 0 (zc_X9_points l D J F (a_t := a_t) (a_t_now := a_t_now) (a_t_trial := a_t_trial) (a_t_diary := a_t_diary) (a_t_kept := a_t_kept) (a_t_isKept := a_t_isKept) (a_t_script := a_t_script) (a_t_read := a_t_read) (a_t_wanted := a_t_wanted) (a_t_level := a_t_level) (a_t_chosen := a_t_chosen) (a_t_best := a_t_best) (c_t_refusal := c_t_refusal) (c_t_high := c_t_high) (c_t_wide := c_t_wide) (c_t_acts := c_t_acts) (c_t_next := c_t_next) (c_t_scriptSize := c_t_scriptSize) (c_t_spot := c_t_spot) (c_t_readHigh := c_t_readHigh) (c_t_readWide := c_t_readWide)  q15 h16) dX9_findBest_70 gX9_findBest_X9_points rfl rfl rfl (by decide +kernel) ⟨Nat.le_of_ble_eq_true rfl, Nat.le_of_ble_eq_true rfl⟩ ⟨Nat.le_of_ble_eq_true rfl, Nat.le_of_ble_eq_true rfl⟩ (z_spl_of [0, 1, 2, 3, 4] rfl rfl) rfl rfl rfl rfl (Nat.le_of_ble_eq_true rfl) rfl (fun rv w9 hq => ?_)
        obtain ⟨rfl, rfl⟩ := hq
        refine z_ws [(a_t_now, zI J 243 f_t_now), (a_t_level, zI J 972 v9), (a_t_chosen, zI J 4 (va_up v10 (v8).toNat ((v10 (v8).toNat) + (1 : Int)))), (a_t_best, zI J 5 v11), (a_t, .inr (8, [.int (zi c_t_refusal), .int (zi c_t_high), .int (zi c_t_wide), .ref a_t_now, .ref a_t_trial, .ref a_t_diary, .int (zi c_t_acts), .int (zi c_t_next), .ref a_t_kept, .ref a_t_isKept, .ref a_t_script, .int (zi c_t_scriptSize), .int (zi c_t_spot), .ref a_t_read, .int (zi c_t_readHigh), .int (zi c_t_readWide), .ref a_t_wanted, .ref a_t_level, .ref a_t_chosen, .ref a_t_best]))] rfl ?_
        have g17 := zkr_p hsh
        replace hsh := zkr_k hsh
        have g18 := zkr_p hsh
        replace hsh := zkr_k hsh
        refine z_icmp_ne (pc' := 76) (tgt := 82) dX9_findBest_73 (by decide) g17 g18 rfl (fun q => ?_) (fun q => ?_)
        · replace hsh := zif_f q hsh
          refine z_aload_n (pc' := 83) 0 dX9_findBest_82 rfl rfl rfl ?_
          refine z_aload_n (pc' := 84) 0 dX9_findBest_83 rfl rfl rfl ?_
          refine z_getfield (pc' := 87) (C := RX9) (T := TX9) (N := 20) 4 17 dX9_findBest_84 iX9_findBest_X9 rfl rfl (by decide) mX9_findBest_f42 rfl rfl ?_
          refine z_sipush (pc' := 90) dX9_findBest_87 (by decide) rfl ?_
          refine z_iload_n (pc' := 91) 2 dX9_findBest_90 rfl rfl rfl ?_
          refine z_imul (pc' := 92) dX9_findBest_91 rfl ?_
          refine z_aload_n (pc' := 93) 0 dX9_findBest_92 rfl rfl rfl ?_
          refine z_getfield (pc' := 96) (C := RX9) (T := TX9) (N := 20) 4 18 dX9_findBest_93 iX9_findBest_X9 rfl rfl (by decide) mX9_findBest_f45 rfl rfl ?_
          refine z_iload_n (pc' := 97) 2 dX9_findBest_96 rfl rfl rfl ?_
          refine z_iaload (pc' := 98) 2 dX9_findBest_97 rfl (by decide) g14 rfl ?_
          obtain ⟨q19, h20, hsh⟩ := zbind hsh
          refine z_callV (pc' := 101) (C := RX9) (As := [.ref a_t_level, .int (zi ((243 : Int) * v8)), .int (zi ((va_up v10 (v8).toNat ((v10 (v8).toNat) + (1 : Int))) (v8).toNat))]) (rest := []) (wr := [(a_t_now, zI J 243 f_t_now), (a_t_chosen, zI J 4 (va_up v10 (v8).toNat ((v10 (v8).toNat) + (1 : Int)))), (a_t_best, zI J 5 v11)]) 3 (zc_X9_isReadyIn l D J F (a_t := a_t) (a_p0 := a_t_level) (a_t_now := a_t_now) (a_t_trial := a_t_trial) (a_t_diary := a_t_diary) (a_t_kept := a_t_kept) (a_t_isKept := a_t_isKept) (a_t_script := a_t_script) (a_t_read := a_t_read) (a_t_wanted := a_t_wanted) (a_t_level := a_t_level) (a_t_chosen := a_t_chosen) (a_t_best := a_t_best) (c_t_refusal := c_t_refusal) (c_t_high := c_t_high) (c_t_wide := c_t_wide) (c_t_acts := c_t_acts) (c_t_next := c_t_next) (c_t_scriptSize := c_t_scriptSize) (c_t_spot := c_t_spot) (c_t_readHigh := c_t_readHigh) (c_t_readWide := c_t_readWide) (f_p0 := v9) (n_p0 := 972) (p1 := ((243 : Int) * v8)) (p2 := ((va_up v10 (v8).toNat ((v10 (v8).toNat) + (1 : Int))) (v8).toNat)) (hn_p0 := (by decide)) q19 h20) dX9_findBest_98 gX9_findBest_X9_isReadyIn rfl rfl rfl (by decide +kernel) ⟨Nat.le_of_ble_eq_true rfl, Nat.le_of_ble_eq_true rfl⟩ ⟨Nat.le_of_ble_eq_true rfl, Nat.le_of_ble_eq_true rfl⟩ (z_spl_of [4, 1, 0, 2, 3] rfl rfl) rfl rfl rfl rfl (Nat.le_of_ble_eq_true rfl) rfl (fun rv w9 hq => ?_)
          obtain ⟨rfl, rfl⟩ := hq
          refine z_ws [(a_t_now, zI J 243 f_t_now), (a_t_chosen, zI J 4 (va_up v10 (v8).toNat ((v10 (v8).toNat) + (1 : Int)))), (a_t_best, zI J 5 v11), (a_t, .inr (8, [.int (zi c_t_refusal), .int (zi c_t_high), .int (zi c_t_wide), .ref a_t_now, .ref a_t_trial, .ref a_t_diary, .int (zi c_t_acts), .int (zi c_t_next), .ref a_t_kept, .ref a_t_isKept, .ref a_t_script, .int (zi c_t_scriptSize), .int (zi c_t_spot), .ref a_t_read, .int (zi c_t_readHigh), .int (zi c_t_readWide), .ref a_t_wanted, .ref a_t_level, .ref a_t_chosen, .ref a_t_best])), (a_t_level, zI J 972 v9)] rfl ?_
          have g21 := zkr_p hsh
          replace hsh := zkr_k hsh
          refine z_if_eq (pc' := 104) (tgt := 30) dX9_findBest_101 (by decide) g21 rfl (fun q => ?_) (fun q => ?_)
          · replace hsh := zif_t q hsh
            refine z_perm [(a_t, .inr (8, [.int (zi c_t_refusal), .int (zi c_t_high), .int (zi c_t_wide), .ref a_t_now, .ref a_t_trial, .ref a_t_diary, .int (zi c_t_acts), .int (zi c_t_next), .ref a_t_kept, .ref a_t_isKept, .ref a_t_script, .int (zi c_t_scriptSize), .int (zi c_t_spot), .ref a_t_read, .int (zi c_t_readHigh), .int (zi c_t_readWide), .ref a_t_wanted, .ref a_t_level, .ref a_t_chosen, .ref a_t_best])), (a_t_now, zI J 243 f_t_now), (a_t_level, zI J 972 v9), (a_t_chosen, zI J 4 (va_up v10 (v8).toNat ((v10 (v8).toNat) + (1 : Int)))), (a_t_best, zI J 5 v11)] [(0, .ref a_t), (1, .int (zi p0)), (2, .int (zi v8))] [3, 0, 4, 1, 2] [0, 1, 2] rfl rfl rfl ?_
            exact ih _ _ _ _ hsh
          · replace hsh := zif_f q hsh
            refine z_aload_n (pc' := 105) 0 dX9_findBest_104 rfl rfl rfl ?_
            refine z_getfield (pc' := 108) (C := RX9) (T := TX9) (N := 20) 3 17 dX9_findBest_105 iX9_findBest_X9 rfl rfl (by decide) mX9_findBest_f42 rfl rfl ?_
            refine z_sipush (pc' := 111) dX9_findBest_108 (by decide) rfl ?_
            refine z_iload_n (pc' := 112) 2 dX9_findBest_111 rfl rfl rfl ?_
            refine z_imul (pc' := 113) dX9_findBest_112 rfl ?_
            refine z_aload_n (pc' := 114) 0 dX9_findBest_113 rfl rfl rfl ?_
            refine z_getfield (pc' := 117) (C := RX9) (T := TX9) (N := 20) 3 17 dX9_findBest_114 iX9_findBest_X9 rfl rfl (by decide) mX9_findBest_f42 rfl rfl ?_
            refine z_sipush (pc' := 120) dX9_findBest_117 (by decide) rfl ?_
            refine z_iload_n (pc' := 121) 2 dX9_findBest_120 rfl rfl rfl ?_
            refine z_imul (pc' := 122) dX9_findBest_121 rfl ?_
            refine z_sipush (pc' := 125) dX9_findBest_122 (by decide) rfl ?_
            refine z_iadd (pc' := 126) dX9_findBest_125 rfl ?_
            obtain ⟨q22, h23, hsh⟩ := zbind hsh
            refine z_callS (pc' := 129) (As := [.ref a_t_level, .int (zi ((243 : Int) * v8)), .ref a_t_level, .int (zi (((243 : Int) * v8) + (243 : Int)))]) (rest := []) (wr := [(a_t_now, zI J 243 f_t_now), (a_t_chosen, zI J 4 (va_up v10 (v8).toNat ((v10 (v8).toNat) + (1 : Int)))), (a_t_best, zI J 5 v11), (a_t, .inr (8, [.int (zi c_t_refusal), .int (zi c_t_high), .int (zi c_t_wide), .ref a_t_now, .ref a_t_trial, .ref a_t_diary, .int (zi c_t_acts), .int (zi c_t_next), .ref a_t_kept, .ref a_t_isKept, .ref a_t_script, .int (zi c_t_scriptSize), .int (zi c_t_spot), .ref a_t_read, .int (zi c_t_readHigh), .int (zi c_t_readWide), .ref a_t_wanted, .ref a_t_level, .ref a_t_chosen, .ref a_t_best]))]) 4 (zc_X9_copy_p0p2 l D J F (a_p0 := a_t_level) (f_p0 := v9) (n_p0 := 972) (p1 := ((243 : Int) * v8)) (p3 := (((243 : Int) * v8) + (243 : Int))) (hn_p0 := (by decide)) q22 h23) dX9_findBest_126 gX9_findBest_X9_copy rfl rfl rfl (by decide +kernel) ⟨Nat.le_of_ble_eq_true rfl, Nat.le_of_ble_eq_true rfl⟩ ⟨Nat.le_of_ble_eq_true rfl, Nat.le_of_ble_eq_true rfl⟩ (z_spl_of [4, 0, 1, 2, 3] rfl rfl) rfl rfl (Nat.le_of_ble_eq_true rfl) rfl (fun rv w9 hq => ?_)
            obtain ⟨rfl, rfl⟩ := hq
            refine z_ws [(a_t_now, zI J 243 f_t_now), (a_t_chosen, zI J 4 (va_up v10 (v8).toNat ((v10 (v8).toNat) + (1 : Int)))), (a_t_best, zI J 5 v11), (a_t, .inr (8, [.int (zi c_t_refusal), .int (zi c_t_high), .int (zi c_t_wide), .ref a_t_now, .ref a_t_trial, .ref a_t_diary, .int (zi c_t_acts), .int (zi c_t_next), .ref a_t_kept, .ref a_t_isKept, .ref a_t_script, .int (zi c_t_scriptSize), .int (zi c_t_spot), .ref a_t_read, .int (zi c_t_readHigh), .int (zi c_t_readWide), .ref a_t_wanted, .ref a_t_level, .ref a_t_chosen, .ref a_t_best])), (a_t_level, zI J 972 q22)] rfl ?_
            refine z_iinc (pc' := 132) [(2, .int (zi (v8 + (1 : Int)))), (0, .ref a_t), (1, .int (zi p0))] 2 dX9_findBest_129 rfl (by decide) rfl rfl ?_
            refine z_aload_n (pc' := 133) 1 dX9_findBest_132 rfl rfl rfl ?_
            refine z_getfield (pc' := 136) (C := RX9) (T := TX9) (N := 20) 3 17 dX9_findBest_133 iX9_findBest_X9 rfl rfl (by decide) mX9_findBest_f42 rfl rfl ?_
            refine z_sipush (pc' := 139) dX9_findBest_136 (by decide) rfl ?_
            refine z_iload_n (pc' := 140) 0 dX9_findBest_139 rfl rfl rfl ?_
            refine z_imul (pc' := 141) dX9_findBest_140 rfl ?_
            refine z_aload_n (pc' := 142) 1 dX9_findBest_141 rfl rfl rfl ?_
            refine z_getfield (pc' := 145) (C := RX9) (T := TX9) (N := 20) 3 18 dX9_findBest_142 iX9_findBest_X9 rfl rfl (by decide) mX9_findBest_f45 rfl rfl ?_
            refine z_iload_n (pc' := 146) 0 dX9_findBest_145 rfl rfl rfl ?_
            refine z_iconst (pc' := 147) dX9_findBest_146 rfl ?_
            refine z_isub (pc' := 148) dX9_findBest_147 rfl ?_
            have g24 := zkx_p hsh
            replace hsh := zkx_k hsh
            refine z_iaload (pc' := 149) 1 dX9_findBest_148 rfl (by decide) g24 rfl ?_
            obtain ⟨q25, h26, hsh⟩ := zbind hsh
            refine z_callS (pc' := 152) (As := [.ref a_t_level, .int (zi ((243 : Int) * (v8 + (1 : Int)))), .int (zi ((va_up v10 (v8).toNat ((v10 (v8).toNat) + (1 : Int))) (((v8 + (1 : Int)) - (1 : Int))).toNat))]) (rest := []) (wr := [(a_t_now, zI J 243 f_t_now), (a_t_chosen, zI J 4 (va_up v10 (v8).toNat ((v10 (v8).toNat) + (1 : Int)))), (a_t_best, zI J 5 v11), (a_t, .inr (8, [.int (zi c_t_refusal), .int (zi c_t_high), .int (zi c_t_wide), .ref a_t_now, .ref a_t_trial, .ref a_t_diary, .int (zi c_t_acts), .int (zi c_t_next), .ref a_t_kept, .ref a_t_isKept, .ref a_t_script, .int (zi c_t_scriptSize), .int (zi c_t_spot), .ref a_t_read, .int (zi c_t_readHigh), .int (zi c_t_readWide), .ref a_t_wanted, .ref a_t_level, .ref a_t_chosen, .ref a_t_best]))]) 3 (zc_X9_take l D J F (a_p0 := a_t_level) (f_p0 := q22) (n_p0 := 972) (p1 := ((243 : Int) * (v8 + (1 : Int)))) (p2 := ((va_up v10 (v8).toNat ((v10 (v8).toNat) + (1 : Int))) (((v8 + (1 : Int)) - (1 : Int))).toNat)) (hn_p0 := (by decide)) q25 h26) dX9_findBest_149 gX9_findBest_X9_take rfl rfl rfl (by decide +kernel) ⟨Nat.le_of_ble_eq_true rfl, Nat.le_of_ble_eq_true rfl⟩ ⟨Nat.le_of_ble_eq_true rfl, Nat.le_of_ble_eq_true rfl⟩ (z_spl_of [4, 0, 1, 2, 3] rfl rfl) rfl rfl (Nat.le_of_ble_eq_true rfl) rfl (fun rv w9 hq => ?_)
            obtain ⟨rfl, rfl⟩ := hq
            refine z_ws [(a_t_now, zI J 243 f_t_now), (a_t_chosen, zI J 4 (va_up v10 (v8).toNat ((v10 (v8).toNat) + (1 : Int)))), (a_t_best, zI J 5 v11), (a_t, .inr (8, [.int (zi c_t_refusal), .int (zi c_t_high), .int (zi c_t_wide), .ref a_t_now, .ref a_t_trial, .ref a_t_diary, .int (zi c_t_acts), .int (zi c_t_next), .ref a_t_kept, .ref a_t_isKept, .ref a_t_script, .int (zi c_t_scriptSize), .int (zi c_t_spot), .ref a_t_read, .int (zi c_t_readHigh), .int (zi c_t_readWide), .ref a_t_wanted, .ref a_t_level, .ref a_t_chosen, .ref a_t_best])), (a_t_level, zI J 972 q25.2)] rfl ?_
            refine z_pop (pc' := 153) dX9_findBest_152 rfl rfl ?_
            refine z_aload_n (pc' := 154) 1 dX9_findBest_153 rfl rfl rfl ?_
            refine z_getfield (pc' := 157) (C := RX9) (T := TX9) (N := 20) 3 18 dX9_findBest_154 iX9_findBest_X9 rfl rfl (by decide) mX9_findBest_f45 rfl rfl ?_
            refine z_iload_n (pc' := 158) 0 dX9_findBest_157 rfl rfl rfl ?_
            refine z_iconst (pc' := 159) dX9_findBest_158 rfl ?_
            have g27 := zkx_p hsh
            replace hsh := zkx_k hsh
            refine z_iastore (pc' := 160) 1 [(a_t_now, zI J 243 f_t_now), (a_t_chosen, zI J 4 (va_up (va_up v10 (v8).toNat ((v10 (v8).toNat) + (1 : Int))) ((v8 + (1 : Int))).toNat (-1 : Int))), (a_t_best, zI J 5 v11), (a_t, .inr (8, [.int (zi c_t_refusal), .int (zi c_t_high), .int (zi c_t_wide), .ref a_t_now, .ref a_t_trial, .ref a_t_diary, .int (zi c_t_acts), .int (zi c_t_next), .ref a_t_kept, .ref a_t_isKept, .ref a_t_script, .int (zi c_t_scriptSize), .int (zi c_t_spot), .ref a_t_read, .int (zi c_t_readHigh), .int (zi c_t_readWide), .ref a_t_wanted, .ref a_t_level, .ref a_t_chosen, .ref a_t_best])), (a_t_level, zI J 972 q25.2)] dX9_findBest_159 rfl (by decide) g27 rfl rfl ?_
            refine z_goto (tgt := 30) dX9_findBest_160 (by decide) ?_
            refine z_perm [(a_t, .inr (8, [.int (zi c_t_refusal), .int (zi c_t_high), .int (zi c_t_wide), .ref a_t_now, .ref a_t_trial, .ref a_t_diary, .int (zi c_t_acts), .int (zi c_t_next), .ref a_t_kept, .ref a_t_isKept, .ref a_t_script, .int (zi c_t_scriptSize), .int (zi c_t_spot), .ref a_t_read, .int (zi c_t_readHigh), .int (zi c_t_readWide), .ref a_t_wanted, .ref a_t_level, .ref a_t_chosen, .ref a_t_best])), (a_t_now, zI J 243 f_t_now), (a_t_level, zI J 972 q25.2), (a_t_chosen, zI J 4 (va_up (va_up v10 (v8).toNat ((v10 (v8).toNat) + (1 : Int))) ((v8 + (1 : Int))).toNat (-1 : Int))), (a_t_best, zI J 5 v11)] [(0, .ref a_t), (1, .int (zi p0)), (2, .int (zi (v8 + (1 : Int))))] [3, 0, 4, 1, 2] [1, 2, 0] rfl rfl rfl ?_
            exact ih _ _ _ _ hsh
        · replace hsh := zif_t q hsh
          refine z_iinc (pc' := 79) [(2, .int (zi (v8 + (-1 : Int)))), (0, .ref a_t), (1, .int (zi p0))] 2 dX9_findBest_76 rfl (by decide) rfl rfl ?_
          refine z_goto (tgt := 30) dX9_findBest_79 (by decide) ?_
          refine z_perm [(a_t, .inr (8, [.int (zi c_t_refusal), .int (zi c_t_high), .int (zi c_t_wide), .ref a_t_now, .ref a_t_trial, .ref a_t_diary, .int (zi c_t_acts), .int (zi c_t_next), .ref a_t_kept, .ref a_t_isKept, .ref a_t_script, .int (zi c_t_scriptSize), .int (zi c_t_spot), .ref a_t_read, .int (zi c_t_readHigh), .int (zi c_t_readWide), .ref a_t_wanted, .ref a_t_level, .ref a_t_chosen, .ref a_t_best])), (a_t_now, zI J 243 f_t_now), (a_t_level, zI J 972 v9), (a_t_chosen, zI J 4 (va_up v10 (v8).toNat ((v10 (v8).toNat) + (1 : Int)))), (a_t_best, zI J 5 v11)] [(0, .ref a_t), (1, .int (zi p0)), (2, .int (zi (v8 + (-1 : Int))))] [4, 0, 1, 2, 3] [1, 2, 0] rfl rfl rfl ?_
          exact ih _ _ _ _ hsh
      · replace hsh := zif_t q hsh
        refine z_aload_n (pc' := 42) 0 dX9_findBest_41 rfl rfl rfl ?_
        refine z_iload_n (pc' := 43) 1 dX9_findBest_42 rfl rfl rfl ?_
        refine z_iload_n (pc' := 44) 2 dX9_findBest_43 rfl rfl rfl ?_
        obtain ⟨q28, h29, hsh⟩ := zbind hsh
        refine z_callV (pc' := 47) (C := RX9) (As := [.int (zi p0), .int (zi v8)]) (rest := []) (wr := [(a_t_now, zI J 243 f_t_now)]) 2 (zc_X9_lookLast l D J F (a_t := a_t) (a_t_now := a_t_now) (a_t_trial := a_t_trial) (a_t_diary := a_t_diary) (a_t_kept := a_t_kept) (a_t_isKept := a_t_isKept) (a_t_script := a_t_script) (a_t_read := a_t_read) (a_t_wanted := a_t_wanted) (a_t_level := a_t_level) (a_t_chosen := a_t_chosen) (a_t_best := a_t_best) (c_t_refusal := c_t_refusal) (c_t_high := c_t_high) (c_t_wide := c_t_wide) (c_t_acts := c_t_acts) (c_t_next := c_t_next) (c_t_scriptSize := c_t_scriptSize) (c_t_spot := c_t_spot) (c_t_readHigh := c_t_readHigh) (c_t_readWide := c_t_readWide) (f_t_level := v9) (f_t_chosen := v10) (f_t_best := v11) (p0 := p0) (p1 := v8)  q28 h29) dX9_findBest_44 gX9_findBest_X9_lookLast rfl rfl rfl (by decide +kernel) ⟨Nat.le_of_ble_eq_true rfl, Nat.le_of_ble_eq_true rfl⟩ ⟨Nat.le_of_ble_eq_true rfl, Nat.le_of_ble_eq_true rfl⟩ (z_spl_of [0, 2, 3, 4, 1] rfl rfl) rfl rfl rfl rfl (Nat.le_of_ble_eq_true rfl) rfl (fun rv w9 hq => ?_)
        obtain ⟨rfl, rfl⟩ := hq
        refine z_ws [(a_t_now, zI J 243 f_t_now), (a_t, .inr (8, [.int (zi c_t_refusal), .int (zi c_t_high), .int (zi c_t_wide), .ref a_t_now, .ref a_t_trial, .ref a_t_diary, .int (zi c_t_acts), .int (zi c_t_next), .ref a_t_kept, .ref a_t_isKept, .ref a_t_script, .int (zi c_t_scriptSize), .int (zi c_t_spot), .ref a_t_read, .int (zi c_t_readHigh), .int (zi c_t_readWide), .ref a_t_wanted, .ref a_t_level, .ref a_t_chosen, .ref a_t_best])), (a_t_level, zI J 972 v9), (a_t_chosen, zI J 4 q28.1), (a_t_best, zI J 5 q28.2)] rfl ?_
        refine z_iinc (pc' := 50) [(2, .int (zi (v8 + (-1 : Int)))), (0, .ref a_t), (1, .int (zi p0))] 2 dX9_findBest_47 rfl (by decide) rfl rfl ?_
        refine z_goto (tgt := 30) dX9_findBest_50 (by decide) ?_
        refine z_perm [(a_t, .inr (8, [.int (zi c_t_refusal), .int (zi c_t_high), .int (zi c_t_wide), .ref a_t_now, .ref a_t_trial, .ref a_t_diary, .int (zi c_t_acts), .int (zi c_t_next), .ref a_t_kept, .ref a_t_isKept, .ref a_t_script, .int (zi c_t_scriptSize), .int (zi c_t_spot), .ref a_t_read, .int (zi c_t_readHigh), .int (zi c_t_readWide), .ref a_t_wanted, .ref a_t_level, .ref a_t_chosen, .ref a_t_best])), (a_t_now, zI J 243 f_t_now), (a_t_level, zI J 972 v9), (a_t_chosen, zI J 4 q28.1), (a_t_best, zI J 5 q28.2)] [(0, .ref a_t), (1, .int (zi p0)), (2, .int (zi (v8 + (-1 : Int))))] [1, 0, 2, 3, 4] [1, 2, 0] rfl rfl rfl ?_
        exact ih _ _ _ _ hsh
set_option maxRecDepth 100000 in
set_option maxHeartbeats 4000000 in
theorem zc_X9_findBest (l : Launch) (D : va_G) (J : Nat → ClassId) (F : Nat) (a_t : Nat) (a_t_now : Nat) (a_t_trial : Nat) (a_t_diary : Nat) (a_t_kept : Nat) (a_t_isKept : Nat) (a_t_script : Nat) (a_t_read : Nat) (a_t_wanted : Nat) (a_t_level : Nat) (a_t_chosen : Nat) (a_t_best : Nat) (c_t_refusal : Int) (c_t_high : Int) (c_t_wide : Int) (c_t_acts : Int) (c_t_next : Int) (c_t_scriptSize : Int) (c_t_spot : Int) (c_t_readHigh : Int) (c_t_readWide : Int) (f_t_now : Nat → Int) (f_t_level : Nat → Int) (f_t_chosen : Nat → Int) (f_t_best : Nat → Int) (p0 : Int) (res : (Nat → Int) × (Nat → Int) × (Nat → Int)) (hsh : sh_X9_findBest F c_t_high c_t_wide f_t_now f_t_level f_t_chosen f_t_best p0 = some res) : ZM l D J yX9_findBest wsX9_findBest ({ frames := 5, cells := 0, slots := 0, locals := 124 } : Room) 0 0 [.ref a_t, .int (zi p0)] [(a_t, .inr (8, [.int (zi c_t_refusal), .int (zi c_t_high), .int (zi c_t_wide), .ref a_t_now, .ref a_t_trial, .ref a_t_diary, .int (zi c_t_acts), .int (zi c_t_next), .ref a_t_kept, .ref a_t_isKept, .ref a_t_script, .int (zi c_t_scriptSize), .int (zi c_t_spot), .ref a_t_read, .int (zi c_t_readHigh), .int (zi c_t_readWide), .ref a_t_wanted, .ref a_t_level, .ref a_t_chosen, .ref a_t_best])), (a_t_now, zI J 243 f_t_now), (a_t_level, zI J 972 f_t_level), (a_t_chosen, zI J 4 f_t_chosen), (a_t_best, zI J 5 f_t_best)] (fun rv w9 => rv = none ∧ w9 = [(a_t, .inr (8, [.int (zi c_t_refusal), .int (zi c_t_high), .int (zi c_t_wide), .ref a_t_now, .ref a_t_trial, .ref a_t_diary, .int (zi c_t_acts), .int (zi c_t_next), .ref a_t_kept, .ref a_t_isKept, .ref a_t_script, .int (zi c_t_scriptSize), .int (zi c_t_spot), .ref a_t_read, .int (zi c_t_readHigh), .int (zi c_t_readWide), .ref a_t_wanted, .ref a_t_level, .ref a_t_chosen, .ref a_t_best])), (a_t_now, zI J 243 f_t_now), (a_t_level, zI J 972 res.1), (a_t_chosen, zI J 4 res.2.1), (a_t_best, zI J 5 res.2.2)]) := by
  refine z_ofZ (cc := cX9_findBest) (maxL := 3) (ret := none) 0 0 (by decide) rfl (Nat.le_of_ble_eq_true rfl) [(0, .ref a_t), (1, .int (zi p0))] rfl ?_
  intro p e s m args below meth c A
  unfold sh_X9_findBest at hsh
  refine z_aload_n (pc' := 1) 0 dX9_findBest_0 rfl rfl rfl ?_
  refine z_getfield (pc' := 4) (C := RX9) (T := TX9) (N := 20) 0 19 dX9_findBest_1 iX9_findBest_X9 rfl rfl (by decide) mX9_findBest_f48 rfl rfl ?_
  refine z_iconst (pc' := 5) dX9_findBest_4 rfl ?_
  refine z_bipush (pc' := 7) dX9_findBest_5 (by decide) rfl ?_
  refine z_iastore (pc' := 8) 4 [(a_t, .inr (8, [.int (zi c_t_refusal), .int (zi c_t_high), .int (zi c_t_wide), .ref a_t_now, .ref a_t_trial, .ref a_t_diary, .int (zi c_t_acts), .int (zi c_t_next), .ref a_t_kept, .ref a_t_isKept, .ref a_t_script, .int (zi c_t_scriptSize), .int (zi c_t_spot), .ref a_t_read, .int (zi c_t_readHigh), .int (zi c_t_readWide), .ref a_t_wanted, .ref a_t_level, .ref a_t_chosen, .ref a_t_best])), (a_t_now, zI J 243 f_t_now), (a_t_level, zI J 972 f_t_level), (a_t_chosen, zI J 4 f_t_chosen), (a_t_best, zI J 5 (va_up f_t_best ((4 : Int)).toNat (-9 : Int)))] dX9_findBest_7 rfl (by decide) (by decide) rfl rfl ?_
  refine z_aload_n (pc' := 9) 0 dX9_findBest_8 rfl rfl rfl ?_
  refine z_getfield (pc' := 12) (C := RX9) (T := TX9) (N := 20) 0 3 dX9_findBest_9 iX9_findBest_X9 rfl rfl (by decide) mX9_findBest_f16 rfl rfl ?_
  refine z_iconst (pc' := 13) dX9_findBest_12 rfl ?_
  refine z_aload_n (pc' := 14) 0 dX9_findBest_13 rfl rfl rfl ?_
  refine z_getfield (pc' := 17) (C := RX9) (T := TX9) (N := 20) 0 17 dX9_findBest_14 iX9_findBest_X9 rfl rfl (by decide) mX9_findBest_f42 rfl rfl ?_
  refine z_iconst (pc' := 18) dX9_findBest_17 rfl ?_
  obtain ⟨q1, h2, hsh⟩ := zbind hsh
  refine z_callS (pc' := 21) (As := [.ref a_t_now, .int (zi (0 : Int)), .ref a_t_level, .int (zi (0 : Int))]) (rest := []) (wr := [(a_t, .inr (8, [.int (zi c_t_refusal), .int (zi c_t_high), .int (zi c_t_wide), .ref a_t_now, .ref a_t_trial, .ref a_t_diary, .int (zi c_t_acts), .int (zi c_t_next), .ref a_t_kept, .ref a_t_isKept, .ref a_t_script, .int (zi c_t_scriptSize), .int (zi c_t_spot), .ref a_t_read, .int (zi c_t_readHigh), .int (zi c_t_readWide), .ref a_t_wanted, .ref a_t_level, .ref a_t_chosen, .ref a_t_best])), (a_t_chosen, zI J 4 f_t_chosen), (a_t_best, zI J 5 (va_up f_t_best ((4 : Int)).toNat (-9 : Int)))]) 4 (zc_X9_copy l D J F (a_p0 := a_t_now) (a_p2 := a_t_level) (f_p0 := f_t_now) (f_p2 := f_t_level) (n_p0 := 243) (n_p2 := 972) (p1 := (0 : Int)) (p3 := (0 : Int)) (hn_p0 := (by decide)) (hn_p2 := (by decide)) q1 h2) dX9_findBest_18 gX9_findBest_X9_copy rfl rfl rfl (by decide +kernel) ⟨Nat.le_of_ble_eq_true rfl, Nat.le_of_ble_eq_true rfl⟩ ⟨Nat.le_of_ble_eq_true rfl, Nat.le_of_ble_eq_true rfl⟩ (z_spl_of [1, 2, 0, 3, 4] rfl rfl) rfl rfl (Nat.le_of_ble_eq_true rfl) rfl (fun rv w9 hq => ?_)
  obtain ⟨rfl, rfl⟩ := hq
  refine z_ws [(a_t, .inr (8, [.int (zi c_t_refusal), .int (zi c_t_high), .int (zi c_t_wide), .ref a_t_now, .ref a_t_trial, .ref a_t_diary, .int (zi c_t_acts), .int (zi c_t_next), .ref a_t_kept, .ref a_t_isKept, .ref a_t_script, .int (zi c_t_scriptSize), .int (zi c_t_spot), .ref a_t_read, .int (zi c_t_readHigh), .int (zi c_t_readWide), .ref a_t_wanted, .ref a_t_level, .ref a_t_chosen, .ref a_t_best])), (a_t_chosen, zI J 4 f_t_chosen), (a_t_best, zI J 5 (va_up f_t_best ((4 : Int)).toNat (-9 : Int))), (a_t_now, zI J 243 f_t_now), (a_t_level, zI J 972 q1)] rfl ?_
  refine z_iconst (pc' := 22) dX9_findBest_21 rfl ?_
  refine z_istore_n (pc' := 23) [(2, .int (zi (0 : Int))), (0, .ref a_t), (1, .int (zi p0))] dX9_findBest_22 rfl (by decide) rfl rfl ?_
  refine z_aload_n (pc' := 24) 1 dX9_findBest_23 rfl rfl rfl ?_
  refine z_getfield (pc' := 27) (C := RX9) (T := TX9) (N := 20) 0 18 dX9_findBest_24 iX9_findBest_X9 rfl rfl (by decide) mX9_findBest_f45 rfl rfl ?_
  refine z_iconst (pc' := 28) dX9_findBest_27 rfl ?_
  refine z_iconst (pc' := 29) dX9_findBest_28 rfl ?_
  refine z_iastore (pc' := 30) 1 [(a_t, .inr (8, [.int (zi c_t_refusal), .int (zi c_t_high), .int (zi c_t_wide), .ref a_t_now, .ref a_t_trial, .ref a_t_diary, .int (zi c_t_acts), .int (zi c_t_next), .ref a_t_kept, .ref a_t_isKept, .ref a_t_script, .int (zi c_t_scriptSize), .int (zi c_t_spot), .ref a_t_read, .int (zi c_t_readHigh), .int (zi c_t_readWide), .ref a_t_wanted, .ref a_t_level, .ref a_t_chosen, .ref a_t_best])), (a_t_chosen, zI J 4 (va_up f_t_chosen ((0 : Int)).toNat (-1 : Int))), (a_t_best, zI J 5 (va_up f_t_best ((4 : Int)).toNat (-9 : Int))), (a_t_now, zI J 243 f_t_now), (a_t_level, zI J 972 q1)] dX9_findBest_29 rfl (by decide) (by decide) rfl rfl ?_
  refine z_perm [(a_t, .inr (8, [.int (zi c_t_refusal), .int (zi c_t_high), .int (zi c_t_wide), .ref a_t_now, .ref a_t_trial, .ref a_t_diary, .int (zi c_t_acts), .int (zi c_t_next), .ref a_t_kept, .ref a_t_isKept, .ref a_t_script, .int (zi c_t_scriptSize), .int (zi c_t_spot), .ref a_t_read, .int (zi c_t_readHigh), .int (zi c_t_readWide), .ref a_t_wanted, .ref a_t_level, .ref a_t_chosen, .ref a_t_best])), (a_t_now, zI J 243 f_t_now), (a_t_level, zI J 972 q1), (a_t_chosen, zI J 4 (va_up f_t_chosen ((0 : Int)).toNat (-1 : Int))), (a_t_best, zI J 5 (va_up f_t_best ((4 : Int)).toNat (-9 : Int)))] [(0, .ref a_t), (1, .int (zi p0)), (2, .int (zi (0 : Int)))] [0, 3, 4, 1, 2] [1, 2, 0] rfl rfl rfl ?_
  refine zl_X9_findBest_L30 (F := F) (hk := fun v30 v31 v32 v33 hsh => ?_) _ _ _ _ _ hsh
  cases hsh
  exact z_vret rfl dX9_findBest_163 ⟨rfl, rfl⟩
