def sh_X3_split_L28 (F : Nat) (p2 : Int) (k : Int → Int → (Nat → Int) → Option (Int × Int × (Nat → Int))) : Nat → Int → Int → (Nat → Int) → Option (Int × Int × (Nat → Int))
  | 0, _, _, _ => none
  | N + 1, v9, v10, v11 => zkr v10 (if v10 < (0 : Int) then k v9 v10 v11 else zkr p2 (zkl v9 (zkc (¬ p2 = 0) (zkx v10 9 (zkc (¬ p2 = 0) (sh_X3_split_L28 F p2 k N (zdiv v9 p2) (v10 + (-1 : Int)) (va_up v11 (v10).toNat (zmod v9 p2))))))))
def sh_X3_split (F : Nat) (c_t_count : Int) (f_t_values : Nat → Int) (p0 : Int) (p1 : Int) (p2 : Int) : Option (Int × Int × (Nat → Int)) := zkl p0 (if p0 < (0 : Int) then some ((0 : Int), c_t_count, f_t_values) else zkr p1 (if (9 : Int) < p1 then some ((0 : Int), c_t_count, f_t_values) else zkr p2 (if p2 < (1 : Int) then some ((0 : Int), c_t_count, f_t_values) else sh_X3_split_L28 F p2 (fun (v18 : Int) (v19 : Int) (v20 : (Nat → Int)) => zkl v18 (if v18 = (0 : Int) then some ((1 : Int), p1, v20) else some ((0 : Int), p1, v20))) F p0 (p1 - (1 : Int)) f_t_values)))
theorem mX3_split_f11 : Cond.fieldLink RX3 11 (TX3 0).1 (TX3 0).2.1 (TX3 0).2.2.1 ∈ wsX3_split := List.mem_of_getElem? (i := 1) rfl
theorem iX3_split_X3 : ∀ w ∈ wsX30, w ∈ wsX3_split := fun _ h => (List.mem_cons_of_mem _ (List.mem_append_right _ h))
theorem mX3_split_f15 : Cond.fieldLink RX3 15 (TX3 1).1 (TX3 1).2.1 (TX3 1).2.2.1 ∈ wsX3_split := List.mem_of_getElem? (i := 2) rfl
set_option maxRecDepth 100000 in
set_option maxHeartbeats 4000000 in
theorem zl_X3_split_L28 {p : Program} {l : Launch} {e : Env} {s : State} {m : MethodId} {args : Array Value} {below : List Frame} {meth : Method} {c : Code} {A : Nat → Prop} {D : va_G} {J : Nat → ClassId} {F : Nat} {p2 : Int} {a_t : Nat} {a_t_values : Nat} {c_t_count : Int} {p1 : Int} {res : Int × Int × (Nat → Int)} {k : Int → Int → (Nat → Int) → Option (Int × Int × (Nat → Int))} (hk : ∀ (v9' : Int) (v10' : Int) (v11' : (Nat → Int)), k v9' v10' v11' = some res → Z p l e ({ frames := 0, cells := 0, slots := 0, locals := 0 } : Room) s m args below meth c (MQ below (zQ D J A (fun rv w9 => rv = some (.int (zi res.1)) ∧ w9 = [(a_t, .inr (3, [.ref a_t_values, .int (zi res.2.1)])), (a_t_values, zI J 9 res.2.2)])) args s 0 0 A) cX3_split 8 wsX3_split RX3 D J A (some .boolean) (yX3_split.name, []) 0 0 [(a_t, .inr (3, [.ref a_t_values, .int (zi c_t_count)])), (a_t_values, zI J 9 v11')] [(0, .ref a_t), (3, .int (zi p1)), (5, .long (zl v9'))] 61 []) : ∀ (N : Nat) (v9 : Int) (v10 : Int) (v11 : (Nat → Int)), sh_X3_split_L28 F p2 k N v9 v10 v11 = some res → Z p l e ({ frames := 0, cells := 0, slots := 0, locals := 0 } : Room) s m args below meth c (MQ below (zQ D J A (fun rv w9 => rv = some (.int (zi res.1)) ∧ w9 = [(a_t, .inr (3, [.ref a_t_values, .int (zi res.2.1)])), (a_t_values, zI J 9 res.2.2)])) args s 0 0 A) cX3_split 8 wsX3_split RX3 D J A (some .boolean) (yX3_split.name, []) 0 0 [(a_t, .inr (3, [.ref a_t_values, .int (zi c_t_count)])), (a_t_values, zI J 9 v11)] [(0, .ref a_t), (3, .int (zi p1)), (4, .int (zi p2)), (5, .long (zl v9)), (7, .int (zi v10))] 28 [] := by
  intro N
  induction N with
  | zero =>
    intro v9 v10 v11 hsh
    exact absurd hsh (by simp [sh_X3_split_L28])
  | succ N ih =>
    intro v9 v10 v11 hsh
    rw [sh_X3_split_L28] at hsh
    refine z_iload (pc' := 30) 4 dX3_split_28 rfl rfl ?_
    have g12 := zkr_p hsh
    replace hsh := zkr_k hsh
    refine z_if_lt (pc' := 33) (tgt := 61) dX3_split_30 (by decide) g12 rfl (fun q => ?_) (fun q => ?_)
    · replace hsh := zif_t q hsh
      refine z_perm [(a_t, .inr (3, [.ref a_t_values, .int (zi c_t_count)])), (a_t_values, zI J 9 v11)] [(0, .ref a_t), (3, .int (zi p1)), (5, .long (zl v9))] [0, 1] [0, 1, 3] rfl rfl rfl ?_
      exact hk _ _ _ hsh
    · replace hsh := zif_f q hsh
      refine z_aload_n (pc' := 34) 0 dX3_split_33 rfl rfl rfl ?_
      refine z_getfield (pc' := 37) (C := RX3) (T := TX3) (N := 2) 0 0 dX3_split_34 iX3_split_X3 rfl rfl (by decide) mX3_split_f11 rfl rfl ?_
      refine z_iload (pc' := 39) 4 dX3_split_37 rfl rfl ?_
      refine z_lload (pc' := 41) 3 dX3_split_39 rfl rfl ?_
      refine z_iload (pc' := 43) 2 dX3_split_41 rfl rfl ?_
      have g13 := zkr_p hsh
      replace hsh := zkr_k hsh
      refine z_i2l (pc' := 44) dX3_split_43 g13 rfl ?_
      have g14 := zkl_p hsh
      replace hsh := zkl_k hsh
      have g15 := zkc_p hsh
      replace hsh := zkc_k hsh
      refine z_lrem (pc' := 45) dX3_split_44 g14 (zr_l g13) g15 rfl ?_
      refine z_l2i (pc' := 46) dX3_split_45 rfl ?_
      have g16 := zkx_p hsh
      replace hsh := zkx_k hsh
      refine z_iastore (pc' := 47) 1 [(a_t, .inr (3, [.ref a_t_values, .int (zi c_t_count)])), (a_t_values, zI J 9 (va_up v11 (v10).toNat (zmod v9 p2)))] dX3_split_46 rfl (by decide) g16 rfl rfl ?_
      refine z_lload (pc' := 49) 3 dX3_split_47 rfl rfl ?_
      refine z_iload (pc' := 51) 2 dX3_split_49 rfl rfl ?_
      refine z_i2l (pc' := 52) dX3_split_51 g13 rfl ?_
      have g17 := zkc_p hsh
      replace hsh := zkc_k hsh
      refine z_ldiv (pc' := 53) dX3_split_52 g14 (zr_l g13) g17 rfl ?_
      refine z_lstore (pc' := 55) [(5, .long (zl (zdiv v9 p2))), (0, .ref a_t), (3, .int (zi p1)), (4, .int (zi p2)), (7, .int (zi v10))] dX3_split_53 (by decide) rfl rfl ?_
      refine z_iinc (pc' := 58) [(7, .int (zi (v10 + (-1 : Int)))), (5, .long (zl (zdiv v9 p2))), (0, .ref a_t), (3, .int (zi p1)), (4, .int (zi p2))] 4 dX3_split_55 rfl (by decide) rfl rfl ?_
      refine z_goto (tgt := 28) dX3_split_58 (by decide) ?_
      refine z_perm [(a_t, .inr (3, [.ref a_t_values, .int (zi c_t_count)])), (a_t_values, zI J 9 (va_up v11 (v10).toNat (zmod v9 p2)))] [(0, .ref a_t), (3, .int (zi p1)), (4, .int (zi p2)), (5, .long (zl (zdiv v9 p2))), (7, .int (zi (v10 + (-1 : Int))))] [0, 1] [2, 3, 4, 1, 0] rfl rfl rfl ?_
      exact ih _ _ _ hsh
set_option maxRecDepth 100000 in
set_option maxHeartbeats 4000000 in
theorem zc_X3_split (l : Launch) (D : va_G) (J : Nat → ClassId) (F : Nat) (a_t : Nat) (a_t_values : Nat) (c_t_count : Int) (f_t_values : Nat → Int) (p0 : Int) (p1 : Int) (p2 : Int) (res : Int × Int × (Nat → Int)) (hsh : sh_X3_split F c_t_count f_t_values p0 p1 p2 = some res) : ZM l D J yX3_split wsX3_split ({ frames := 0, cells := 0, slots := 0, locals := 0 } : Room) 0 0 [.ref a_t, .long (zl p0), .int (zi p1), .int (zi p2)] [(a_t, .inr (3, [.ref a_t_values, .int (zi c_t_count)])), (a_t_values, zI J 9 f_t_values)] (fun rv w9 => rv = some (.int (zi res.1)) ∧ w9 = [(a_t, .inr (3, [.ref a_t_values, .int (zi res.2.1)])), (a_t_values, zI J 9 res.2.2)]) := by
  refine z_ofZ (cc := cX3_split) (maxL := 8) (ret := (some .boolean)) 0 0 (by decide) rfl (Nat.le_of_ble_eq_true rfl) [(0, .ref a_t), (1, .long (zl p0)), (3, .int (zi p1)), (4, .int (zi p2))] rfl ?_
  intro p e s m args below meth c A
  unfold sh_X3_split at hsh
  refine z_lload_n (pc' := 1) 1 dX3_split_0 rfl rfl rfl ?_
  refine z_lconst (pc' := 2) 0 dX3_split_1 (by decide) rfl ?_
  have g1 := zkl_p hsh
  replace hsh := zkl_k hsh
  refine z_lcmp_lt (pc' := 6) (tgt := 18) dX3_split_2 dX3_split_3 (by decide) g1 (by decide) rfl (fun q => ?_) (fun q => ?_)
  · replace hsh := zif_t q hsh
    refine z_iconst (pc' := 19) dX3_split_18 rfl ?_
    cases hsh
    exact z_zret rfl (by decide) dX3_split_19 ⟨rfl, rfl⟩
  · replace hsh := zif_f q hsh
    refine z_iload_n (pc' := 7) 2 dX3_split_6 rfl rfl rfl ?_
    refine z_bipush (pc' := 9) dX3_split_7 (by decide) rfl ?_
    have g2 := zkr_p hsh
    replace hsh := zkr_k hsh
    refine z_icmp_gt (pc' := 12) (tgt := 18) dX3_split_9 (by decide) g2 (by decide) rfl (fun q => ?_) (fun q => ?_)
    · replace hsh := zif_t q hsh
      refine z_iconst (pc' := 19) dX3_split_18 rfl ?_
      cases hsh
      exact z_zret rfl (by decide) dX3_split_19 ⟨rfl, rfl⟩
    · replace hsh := zif_f q hsh
      refine z_iload (pc' := 14) 3 dX3_split_12 rfl rfl ?_
      refine z_iconst (pc' := 15) dX3_split_14 rfl ?_
      have g3 := zkr_p hsh
      replace hsh := zkr_k hsh
      refine z_icmp_ge (pc' := 18) (tgt := 20) dX3_split_15 (by decide) g3 (by decide) rfl (fun q => ?_) (fun q => ?_)
      · replace hsh := zif_f q hsh
        refine z_lload_n (pc' := 21) 1 dX3_split_20 rfl rfl rfl ?_
        refine z_lstore (pc' := 23) [(5, .long (zl p0)), (0, .ref a_t), (1, .long (zl p0)), (3, .int (zi p1)), (4, .int (zi p2))] dX3_split_21 (by decide) rfl rfl ?_
        refine z_iload_n (pc' := 24) 3 dX3_split_23 rfl rfl rfl ?_
        refine z_iconst (pc' := 25) dX3_split_24 rfl ?_
        refine z_isub (pc' := 26) dX3_split_25 rfl ?_
        refine z_istore (pc' := 28) [(7, .int (zi (p1 - (1 : Int)))), (5, .long (zl p0)), (0, .ref a_t), (1, .long (zl p0)), (3, .int (zi p1)), (4, .int (zi p2))] dX3_split_26 (by decide) rfl rfl ?_
        refine z_perm [(a_t, .inr (3, [.ref a_t_values, .int (zi c_t_count)])), (a_t_values, zI J 9 f_t_values)] [(0, .ref a_t), (3, .int (zi p1)), (4, .int (zi p2)), (5, .long (zl p0)), (7, .int (zi (p1 - (1 : Int))))] [0, 1] [2, 4, 5, 1, 0] rfl rfl rfl ?_
        refine zl_X3_split_L28 (F := F) (hk := fun v18 v19 v20 hsh => ?_) _ _ _ _ hsh
        refine z_aload_n (pc' := 62) 0 dX3_split_61 rfl rfl rfl ?_
        refine z_iload_n (pc' := 63) 1 dX3_split_62 rfl rfl rfl ?_
        refine z_putfield (pc' := 66) (C := RX3) (T := TX3) (N := 2) (ty := .int) 0 1 [(a_t, .inr (3, [.ref a_t_values, .int (zi p1)])), (a_t_values, zI J 9 v20)] tyX3 tyX3_ok nmX3 dX3_split_63 iX3_split_X3 rfl rfl (by decide) mX3_split_f15 rfl (by decide +kernel) rfl rfl (Nat.le_of_ble_eq_true rfl) rfl rfl rfl ?_
        refine z_lload (pc' := 68) 2 dX3_split_66 rfl rfl ?_
        refine z_lconst (pc' := 69) 0 dX3_split_68 (by decide) rfl ?_
        have g21 := zkl_p hsh
        replace hsh := zkl_k hsh
        refine z_lcmp_ne (pc' := 73) (tgt := 77) dX3_split_69 dX3_split_70 (by decide) g21 (by decide) rfl (fun q => ?_) (fun q => ?_)
        · replace hsh := zif_f q hsh
          refine z_iconst (pc' := 78) dX3_split_77 rfl ?_
          cases hsh
          exact z_zret rfl (by decide) dX3_split_78 ⟨rfl, rfl⟩
        · replace hsh := zif_t q hsh
          refine z_iconst (pc' := 74) dX3_split_73 rfl ?_
          refine z_goto (tgt := 78) dX3_split_74 (by decide) ?_
          cases hsh
          exact z_zret rfl (by decide) dX3_split_78 ⟨rfl, rfl⟩
      · replace hsh := zif_t q hsh
        refine z_iconst (pc' := 19) dX3_split_18 rfl ?_
        cases hsh
        exact z_zret rfl (by decide) dX3_split_19 ⟨rfl, rfl⟩
def sh_X3_count (F : Nat) (c_t_count : Int) : Option (Int) := some (c_t_count)
theorem mX3_count_f15 : Cond.fieldLink RX3 15 (TX3 1).1 (TX3 1).2.1 (TX3 1).2.2.1 ∈ wsX3_count := List.mem_of_getElem? (i := 1) rfl
theorem iX3_count_X3 : ∀ w ∈ wsX30, w ∈ wsX3_count := fun _ h => (List.mem_cons_of_mem _ (List.mem_append_right _ h))
set_option maxRecDepth 100000 in
set_option maxHeartbeats 4000000 in
theorem zc_X3_count (l : Launch) (D : va_G) (J : Nat → ClassId) (F : Nat) (a_t : Nat) (a_t_values : Nat) (c_t_count : Int) (res : Int) (hsh : sh_X3_count F c_t_count = some res) : ZM l D J yX3_count wsX3_count ({ frames := 0, cells := 0, slots := 0, locals := 0 } : Room) 0 0 [.ref a_t] [(a_t, .inr (3, [.ref a_t_values, .int (zi c_t_count)]))] (fun rv w9 => rv = some (.int (zi res)) ∧ w9 = [(a_t, .inr (3, [.ref a_t_values, .int (zi c_t_count)]))]) := by
  refine z_ofZ (cc := cX3_count) (maxL := 1) (ret := (some .int)) 0 0 (by decide) rfl (Nat.le_of_ble_eq_true rfl) [(0, .ref a_t)] rfl ?_
  intro p e s m args below meth c A
  unfold sh_X3_count at hsh
  refine z_aload_n (pc' := 1) 0 dX3_count_0 rfl rfl rfl ?_
  refine z_getfield (pc' := 4) (C := RX3) (T := TX3) (N := 2) 0 1 dX3_count_1 iX3_count_X3 rfl rfl (by decide) mX3_count_f15 rfl rfl ?_
  cases hsh
  exact z_iret rfl dX3_count_4 ⟨rfl, rfl⟩
def sh_X3_get (F : Nat) (c_t_count : Int) (f_t_values : Nat → Int) (p0 : Int) : Option (Int) := zkr p0 (if p0 < (0 : Int) then some ((-9 : Int)) else zkr c_t_count (if p0 < c_t_count then zkx p0 9 (some ((f_t_values (p0).toNat))) else some ((-9 : Int))))
theorem mX3_get_f15 : Cond.fieldLink RX3 15 (TX3 1).1 (TX3 1).2.1 (TX3 1).2.2.1 ∈ wsX3_get := List.mem_of_getElem? (i := 1) rfl
theorem iX3_get_X3 : ∀ w ∈ wsX30, w ∈ wsX3_get := fun _ h => (List.mem_cons_of_mem _ (List.mem_append_right _ h))
theorem mX3_get_f11 : Cond.fieldLink RX3 11 (TX3 0).1 (TX3 0).2.1 (TX3 0).2.2.1 ∈ wsX3_get := List.mem_of_getElem? (i := 2) rfl
set_option maxRecDepth 100000 in
set_option maxHeartbeats 4000000 in
theorem zc_X3_get (l : Launch) (D : va_G) (J : Nat → ClassId) (F : Nat) (a_t : Nat) (a_t_values : Nat) (c_t_count : Int) (f_t_values : Nat → Int) (p0 : Int) (res : Int) (hsh : sh_X3_get F c_t_count f_t_values p0 = some res) : ZM l D J yX3_get wsX3_get ({ frames := 0, cells := 0, slots := 0, locals := 0 } : Room) 0 0 [.ref a_t, .int (zi p0)] [(a_t, .inr (3, [.ref a_t_values, .int (zi c_t_count)])), (a_t_values, zI J 9 f_t_values)] (fun rv w9 => rv = some (.int (zi res)) ∧ w9 = [(a_t, .inr (3, [.ref a_t_values, .int (zi c_t_count)])), (a_t_values, zI J 9 f_t_values)]) := by
  refine z_ofZ (cc := cX3_get) (maxL := 2) (ret := (some .int)) 0 0 (by decide) rfl (Nat.le_of_ble_eq_true rfl) [(0, .ref a_t), (1, .int (zi p0))] rfl ?_
  intro p e s m args below meth c A
  unfold sh_X3_get at hsh
  refine z_iload_n (pc' := 1) 1 dX3_get_0 rfl rfl rfl ?_
  have g1 := zkr_p hsh
  replace hsh := zkr_k hsh
  refine z_if_lt (pc' := 4) (tgt := 21) dX3_get_1 (by decide) g1 rfl (fun q => ?_) (fun q => ?_)
  · replace hsh := zif_t q hsh
    refine z_bipush (pc' := 23) dX3_get_21 (by decide) rfl ?_
    cases hsh
    exact z_iret rfl dX3_get_23 ⟨rfl, rfl⟩
  · replace hsh := zif_f q hsh
    refine z_iload_n (pc' := 5) 1 dX3_get_4 rfl rfl rfl ?_
    refine z_aload_n (pc' := 6) 0 dX3_get_5 rfl rfl rfl ?_
    refine z_getfield (pc' := 9) (C := RX3) (T := TX3) (N := 2) 0 1 dX3_get_6 iX3_get_X3 rfl rfl (by decide) mX3_get_f15 rfl rfl ?_
    have g2 := zkr_p hsh
    replace hsh := zkr_k hsh
    refine z_icmp_ge (pc' := 12) (tgt := 21) dX3_get_9 (by decide) g1 g2 rfl (fun q => ?_) (fun q => ?_)
    · replace hsh := zif_f q hsh
      refine z_bipush (pc' := 23) dX3_get_21 (by decide) rfl ?_
      cases hsh
      exact z_iret rfl dX3_get_23 ⟨rfl, rfl⟩
    · replace hsh := zif_t q hsh
      refine z_aload_n (pc' := 13) 0 dX3_get_12 rfl rfl rfl ?_
      refine z_getfield (pc' := 16) (C := RX3) (T := TX3) (N := 2) 0 0 dX3_get_13 iX3_get_X3 rfl rfl (by decide) mX3_get_f11 rfl rfl ?_
      refine z_iload_n (pc' := 17) 1 dX3_get_16 rfl rfl rfl ?_
      have g3 := zkx_p hsh
      replace hsh := zkx_k hsh
      refine z_iaload (pc' := 18) 1 dX3_get_17 rfl (by decide) g3 rfl ?_
      refine z_goto (tgt := 23) dX3_get_18 (by decide) ?_
      cases hsh
      exact z_iret rfl dX3_get_23 ⟨rfl, rfl⟩
def sh_X3_init (F : Nat) : Option (Unit) := some (())
theorem mX3_init_oi : Cond.methodLink RX3 3 objectInit ∈ wsX3_init := List.mem_of_getElem? (i := 1) rfl
theorem mX3_init_oim : Cond.instanceMethod objectInit ∈ wsX3_init := List.mem_of_getElem? (i := 2) rfl
theorem mX3_init_oic : Cond.code objectInit ⟨#[0xb1]⟩ 1 none ∈ wsX3_init := List.mem_of_getElem? (i := 3) rfl
theorem mX3_init_aint : Cond.arrayClass .int ∈ wsX3_init := List.mem_of_getElem? (i := 4) rfl
theorem mX3_init_f11 : Cond.fieldLink RX3 11 (TX3 0).1 (TX3 0).2.1 (TX3 0).2.2.1 ∈ wsX3_init := List.mem_of_getElem? (i := 5) rfl
theorem iX3_init_X3 : ∀ w ∈ wsX30, w ∈ wsX3_init := fun _ h => (List.mem_cons_of_mem _ (List.mem_append_right _ h))
set_option maxRecDepth 100000 in
set_option maxHeartbeats 4000000 in
theorem zc_X3_init (l : Launch) (D : va_G) (J : Nat → ClassId) (F : Nat) (a_t : Nat) (res : Unit) (hsh : sh_X3_init F = some res) : ZM l D J yX3_init wsX3_init ({ frames := 1, cells := 1, slots := 9, locals := 20 } : Room) 1 9 [.ref a_t] [(a_t, .inr (3, [.null, .int (zi (0 : Int))]))] (fun rv w9 => rv = none ∧ ∃ a_t_values : Nat, w9 = [(a_t, .inr (3, [.ref a_t_values, .int (zi (0 : Int))])), (a_t_values, zI J 9 (fun _ => 0))]) := by
  refine z_ofZ (cc := cX3_init) (maxL := 1) (ret := none) 1 9 (by decide) rfl (Nat.le_of_ble_eq_true rfl) [(0, .ref a_t)] rfl ?_
  intro p e s m args below meth c A
  unfold sh_X3_init at hsh
  refine z_aload_n (pc' := 1) 0 dX3_init_0 rfl rfl rfl ?_
  refine z_objInit (pc' := 4) dX3_init_1 mX3_init_oi mX3_init_oim mX3_init_oic (Nat.le_of_ble_eq_true rfl) (Nat.le_of_ble_eq_true rfl) rfl ?_
  refine z_aload_n (pc' := 5) 0 dX3_init_4 rfl rfl rfl ?_
  refine z_bipush (pc' := 7) dX3_init_5 (by decide) rfl ?_
  refine z_newarr_int (pc' := 9) 9 1 9 dX3_init_7 mX3_init_aint rfl (by decide) rfl rfl (Nat.le_of_ble_eq_true rfl) (Nat.le_of_ble_eq_true rfl) rfl (fun b1 => ?_)
  refine z_ws [(a_t, .inr (3, [.null, .int (zi (0 : Int))])), (b1, zI J 9 (fun _ => 0))] rfl ?_
  refine z_putfin (pc' := 12) (C := RX3) (T := TX3) (N := 2) (ty := tyX3 0) 0 0 [(a_t, .inr (3, [.ref b1, .int (zi (0 : Int))])), (b1, zI J 9 (fun _ => 0))] tyX3 tyX3_ok nmX3 dX3_init_9 iX3_init_X3 rfl rfl (by decide) mX3_init_f11 rfl rfl rfl (tyX3_ok 0 (by decide)) rfl rfl (Nat.le_of_ble_eq_true rfl) rfl rfl ?_
  cases hsh
  exact z_vret rfl dX3_init_12 ⟨rfl, b1, rfl⟩
