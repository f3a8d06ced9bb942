def sh_J6_bitCount_0f7a4 (F : Nat) (p0 : Int) : Option (Int) := some ((zand (((zand (((zand (p0 - (zand (zushr p0 (1 : Int)) (1431655765 : Int))) (858993459 : Int)) + (zand (zushr (p0 - (zand (zushr p0 (1 : Int)) (1431655765 : Int))) (2 : Int)) (858993459 : Int))) + (zushr ((zand (p0 - (zand (zushr p0 (1 : Int)) (1431655765 : Int))) (858993459 : Int)) + (zand (zushr (p0 - (zand (zushr p0 (1 : Int)) (1431655765 : Int))) (2 : Int)) (858993459 : Int))) (4 : Int))) (252645135 : Int)) + (zushr (zand (((zand (p0 - (zand (zushr p0 (1 : Int)) (1431655765 : Int))) (858993459 : Int)) + (zand (zushr (p0 - (zand (zushr p0 (1 : Int)) (1431655765 : Int))) (2 : Int)) (858993459 : Int))) + (zushr ((zand (p0 - (zand (zushr p0 (1 : Int)) (1431655765 : Int))) (858993459 : Int)) + (zand (zushr (p0 - (zand (zushr p0 (1 : Int)) (1431655765 : Int))) (2 : Int)) (858993459 : Int))) (4 : Int))) (252645135 : Int)) (8 : Int))) + (zushr ((zand (((zand (p0 - (zand (zushr p0 (1 : Int)) (1431655765 : Int))) (858993459 : Int)) + (zand (zushr (p0 - (zand (zushr p0 (1 : Int)) (1431655765 : Int))) (2 : Int)) (858993459 : Int))) + (zushr ((zand (p0 - (zand (zushr p0 (1 : Int)) (1431655765 : Int))) (858993459 : Int)) + (zand (zushr (p0 - (zand (zushr p0 (1 : Int)) (1431655765 : Int))) (2 : Int)) (858993459 : Int))) (4 : Int))) (252645135 : Int)) + (zushr (zand (((zand (p0 - (zand (zushr p0 (1 : Int)) (1431655765 : Int))) (858993459 : Int)) + (zand (zushr (p0 - (zand (zushr p0 (1 : Int)) (1431655765 : Int))) (2 : Int)) (858993459 : Int))) + (zushr ((zand (p0 - (zand (zushr p0 (1 : Int)) (1431655765 : Int))) (858993459 : Int)) + (zand (zushr (p0 - (zand (zushr p0 (1 : Int)) (1431655765 : Int))) (2 : Int)) (858993459 : Int))) (4 : Int))) (252645135 : Int)) (8 : Int))) (16 : Int))) (63 : Int)))
theorem mJ6_bitCount_0f7a4_k265 : Cond.constant RJ6 265 (1431655765) ∈ wsJ6_bitCount_0f7a4 := List.mem_of_getElem? (i := 1) rfl
theorem mJ6_bitCount_0f7a4_k266 : Cond.constant RJ6 266 (858993459) ∈ wsJ6_bitCount_0f7a4 := List.mem_of_getElem? (i := 2) rfl
theorem mJ6_bitCount_0f7a4_k267 : Cond.constant RJ6 267 (252645135) ∈ wsJ6_bitCount_0f7a4 := List.mem_of_getElem? (i := 3) rfl
set_option maxRecDepth 100000 in
set_option maxHeartbeats 4000000 in
theorem zc_J6_bitCount_0f7a4 (l : Launch) (D : va_G) (J : Nat → ClassId) (F : Nat) (p0 : Int) (res : Int) (hsh : sh_J6_bitCount_0f7a4 F p0 = some res) : ZM l D J yJ6_bitCount_0f7a4 wsJ6_bitCount_0f7a4 ({ frames := 0, cells := 0, slots := 0, locals := 0 } : Room) 0 0 [.int (zi p0)] [] (fun rv w9 => rv = some (.int (zi res)) ∧ w9 = []) := by
  refine z_ofZ (cc := cJ6_bitCount_0f7a4) (maxL := 1) (ret := (some .int)) 0 0 (by decide) rfl (Nat.le_of_ble_eq_true rfl) [(0, .int (zi p0))] rfl ?_
  intro p e s m args below meth c A
  unfold sh_J6_bitCount_0f7a4 at hsh
  refine z_iload_n (pc' := 1) 0 dJ6_bitCount_0f7a4_0 rfl rfl rfl ?_
  refine z_iload_n (pc' := 2) 0 dJ6_bitCount_0f7a4_1 rfl rfl rfl ?_
  refine z_iconst (pc' := 3) dJ6_bitCount_0f7a4_2 rfl ?_
  refine z_iushr (pc' := 4) dJ6_bitCount_0f7a4_3 rfl ?_
  refine z_ldcw (pc' := 7) (1431655765 : Int) dJ6_bitCount_0f7a4_4 mJ6_bitCount_0f7a4_k265 (by decide) rfl ?_
  refine z_iand (pc' := 8) dJ6_bitCount_0f7a4_7 rfl ?_
  refine z_isub (pc' := 9) dJ6_bitCount_0f7a4_8 rfl ?_
  refine z_istore_n (pc' := 10) [(0, .int (zi (p0 - (zand (zushr p0 (1 : Int)) (1431655765 : Int)))))] dJ6_bitCount_0f7a4_9 rfl (by decide) rfl rfl ?_
  refine z_iload_n (pc' := 11) 0 dJ6_bitCount_0f7a4_10 rfl rfl rfl ?_
  refine z_ldcw (pc' := 14) (858993459 : Int) dJ6_bitCount_0f7a4_11 mJ6_bitCount_0f7a4_k266 (by decide) rfl ?_
  refine z_iand (pc' := 15) dJ6_bitCount_0f7a4_14 rfl ?_
  refine z_iload_n (pc' := 16) 0 dJ6_bitCount_0f7a4_15 rfl rfl rfl ?_
  refine z_iconst (pc' := 17) dJ6_bitCount_0f7a4_16 rfl ?_
  refine z_iushr (pc' := 18) dJ6_bitCount_0f7a4_17 rfl ?_
  refine z_ldcw (pc' := 21) (858993459 : Int) dJ6_bitCount_0f7a4_18 mJ6_bitCount_0f7a4_k266 (by decide) rfl ?_
  refine z_iand (pc' := 22) dJ6_bitCount_0f7a4_21 rfl ?_
  refine z_iadd (pc' := 23) dJ6_bitCount_0f7a4_22 rfl ?_
  refine z_istore_n (pc' := 24) [(0, .int (zi ((zand (p0 - (zand (zushr p0 (1 : Int)) (1431655765 : Int))) (858993459 : Int)) + (zand (zushr (p0 - (zand (zushr p0 (1 : Int)) (1431655765 : Int))) (2 : Int)) (858993459 : Int)))))] dJ6_bitCount_0f7a4_23 rfl (by decide) rfl rfl ?_
  refine z_iload_n (pc' := 25) 0 dJ6_bitCount_0f7a4_24 rfl rfl rfl ?_
  refine z_iload_n (pc' := 26) 0 dJ6_bitCount_0f7a4_25 rfl rfl rfl ?_
  refine z_iconst (pc' := 27) dJ6_bitCount_0f7a4_26 rfl ?_
  refine z_iushr (pc' := 28) dJ6_bitCount_0f7a4_27 rfl ?_
  refine z_iadd (pc' := 29) dJ6_bitCount_0f7a4_28 rfl ?_
  refine z_ldcw (pc' := 32) (252645135 : Int) dJ6_bitCount_0f7a4_29 mJ6_bitCount_0f7a4_k267 (by decide) rfl ?_
  refine z_iand (pc' := 33) dJ6_bitCount_0f7a4_32 rfl ?_
  refine z_istore_n (pc' := 34) [(0, .int (zi (zand (((zand (p0 - (zand (zushr p0 (1 : Int)) (1431655765 : Int))) (858993459 : Int)) + (zand (zushr (p0 - (zand (zushr p0 (1 : Int)) (1431655765 : Int))) (2 : Int)) (858993459 : Int))) + (zushr ((zand (p0 - (zand (zushr p0 (1 : Int)) (1431655765 : Int))) (858993459 : Int)) + (zand (zushr (p0 - (zand (zushr p0 (1 : Int)) (1431655765 : Int))) (2 : Int)) (858993459 : Int))) (4 : Int))) (252645135 : Int))))] dJ6_bitCount_0f7a4_33 rfl (by decide) rfl rfl ?_
  refine z_iload_n (pc' := 35) 0 dJ6_bitCount_0f7a4_34 rfl rfl rfl ?_
  refine z_iload_n (pc' := 36) 0 dJ6_bitCount_0f7a4_35 rfl rfl rfl ?_
  refine z_bipush (pc' := 38) dJ6_bitCount_0f7a4_36 (by decide) rfl ?_
  refine z_iushr (pc' := 39) dJ6_bitCount_0f7a4_38 rfl ?_
  refine z_iadd (pc' := 40) dJ6_bitCount_0f7a4_39 rfl ?_
  refine z_istore_n (pc' := 41) [(0, .int (zi ((zand (((zand (p0 - (zand (zushr p0 (1 : Int)) (1431655765 : Int))) (858993459 : Int)) + (zand (zushr (p0 - (zand (zushr p0 (1 : Int)) (1431655765 : Int))) (2 : Int)) (858993459 : Int))) + (zushr ((zand (p0 - (zand (zushr p0 (1 : Int)) (1431655765 : Int))) (858993459 : Int)) + (zand (zushr (p0 - (zand (zushr p0 (1 : Int)) (1431655765 : Int))) (2 : Int)) (858993459 : Int))) (4 : Int))) (252645135 : Int)) + (zushr (zand (((zand (p0 - (zand (zushr p0 (1 : Int)) (1431655765 : Int))) (858993459 : Int)) + (zand (zushr (p0 - (zand (zushr p0 (1 : Int)) (1431655765 : Int))) (2 : Int)) (858993459 : Int))) + (zushr ((zand (p0 - (zand (zushr p0 (1 : Int)) (1431655765 : Int))) (858993459 : Int)) + (zand (zushr (p0 - (zand (zushr p0 (1 : Int)) (1431655765 : Int))) (2 : Int)) (858993459 : Int))) (4 : Int))) (252645135 : Int)) (8 : Int)))))] dJ6_bitCount_0f7a4_40 rfl (by decide) rfl rfl ?_
  refine z_iload_n (pc' := 42) 0 dJ6_bitCount_0f7a4_41 rfl rfl rfl ?_
  refine z_iload_n (pc' := 43) 0 dJ6_bitCount_0f7a4_42 rfl rfl rfl ?_
  refine z_bipush (pc' := 45) dJ6_bitCount_0f7a4_43 (by decide) rfl ?_
  refine z_iushr (pc' := 46) dJ6_bitCount_0f7a4_45 rfl ?_
  refine z_iadd (pc' := 47) dJ6_bitCount_0f7a4_46 rfl ?_
  refine z_istore_n (pc' := 48) [(0, .int (zi (((zand (((zand (p0 - (zand (zushr p0 (1 : Int)) (1431655765 : Int))) (858993459 : Int)) + (zand (zushr (p0 - (zand (zushr p0 (1 : Int)) (1431655765 : Int))) (2 : Int)) (858993459 : Int))) + (zushr ((zand (p0 - (zand (zushr p0 (1 : Int)) (1431655765 : Int))) (858993459 : Int)) + (zand (zushr (p0 - (zand (zushr p0 (1 : Int)) (1431655765 : Int))) (2 : Int)) (858993459 : Int))) (4 : Int))) (252645135 : Int)) + (zushr (zand (((zand (p0 - (zand (zushr p0 (1 : Int)) (1431655765 : Int))) (858993459 : Int)) + (zand (zushr (p0 - (zand (zushr p0 (1 : Int)) (1431655765 : Int))) (2 : Int)) (858993459 : Int))) + (zushr ((zand (p0 - (zand (zushr p0 (1 : Int)) (1431655765 : Int))) (858993459 : Int)) + (zand (zushr (p0 - (zand (zushr p0 (1 : Int)) (1431655765 : Int))) (2 : Int)) (858993459 : Int))) (4 : Int))) (252645135 : Int)) (8 : Int))) + (zushr ((zand (((zand (p0 - (zand (zushr p0 (1 : Int)) (1431655765 : Int))) (858993459 : Int)) + (zand (zushr (p0 - (zand (zushr p0 (1 : Int)) (1431655765 : Int))) (2 : Int)) (858993459 : Int))) + (zushr ((zand (p0 - (zand (zushr p0 (1 : Int)) (1431655765 : Int))) (858993459 : Int)) + (zand (zushr (p0 - (zand (zushr p0 (1 : Int)) (1431655765 : Int))) (2 : Int)) (858993459 : Int))) (4 : Int))) (252645135 : Int)) + (zushr (zand (((zand (p0 - (zand (zushr p0 (1 : Int)) (1431655765 : Int))) (858993459 : Int)) + (zand (zushr (p0 - (zand (zushr p0 (1 : Int)) (1431655765 : Int))) (2 : Int)) (858993459 : Int))) + (zushr ((zand (p0 - (zand (zushr p0 (1 : Int)) (1431655765 : Int))) (858993459 : Int)) + (zand (zushr (p0 - (zand (zushr p0 (1 : Int)) (1431655765 : Int))) (2 : Int)) (858993459 : Int))) (4 : Int))) (252645135 : Int)) (8 : Int))) (16 : Int)))))] dJ6_bitCount_0f7a4_47 rfl (by decide) rfl rfl ?_
  refine z_iload_n (pc' := 49) 0 dJ6_bitCount_0f7a4_48 rfl rfl rfl ?_
  refine z_bipush (pc' := 51) dJ6_bitCount_0f7a4_49 (by decide) rfl ?_
  refine z_iand (pc' := 52) dJ6_bitCount_0f7a4_51 rfl ?_
  cases hsh
  exact z_iret rfl dJ6_bitCount_0f7a4_52 ⟨rfl, rfl⟩
def sh_J7_fill_53178_L5 (F : Nat) (n_p0 : Nat) (p1 : Int) (k : Int → (Nat → Int) → Option ((Nat → Int))) : Nat → Int → (Nat → Int) → Option ((Nat → Int))
  | 0, _, _ => none
  | N + 1, v4, v5 => zkr v4 (zkr (n_p0 : Int) (if v4 < (n_p0 : Int) then zkx v4 n_p0 (sh_J7_fill_53178_L5 F n_p0 p1 k N (v4 + (1 : Int)) (va_up v5 (v4).toNat p1)) else k v4 v5))
def sh_J7_fill_53178 (F : Nat) (f_p0 : Nat → Int) (n_p0 : Nat) (p1 : Int) : Option ((Nat → Int)) := sh_J7_fill_53178_L5 F n_p0 p1 (fun (v9 : Int) (v10 : (Nat → Int)) => some (v10)) F (0 : Int) f_p0
set_option maxRecDepth 100000 in
set_option maxHeartbeats 4000000 in
theorem zl_J7_fill_53178_L5 {p : Program} {l : Launch} {e : Env} {s : State} {m : MethodId} {args : Array Value} {below : List Frame} {meth : Method} {c : Code} {A : Nat → Prop} {D : va_G} {J : Nat → ClassId} {F : Nat} {n_p0 : Nat} {p1 : Int} {a_p0 : Nat} {res : (Nat → Int)} (hn_p0 : n_p0 ≤ 2147483647) {k : Int → (Nat → Int) → Option ((Nat → Int))} (hk : ∀ (v4' : Int) (v5' : (Nat → Int)), k v4' v5' = some res → Z p l e ({ frames := 0, cells := 0, slots := 0, locals := 0 } : Room) s m args below meth c (MQ below (zQ D J A (fun rv w9 => rv = none ∧ w9 = [(a_p0, zI J n_p0 res)])) args s 0 0 A) cJ7_fill_53178 4 wsJ7_fill_53178 RJ7 D J A none (yJ7_fill_53178.name, []) 0 0 [(a_p0, zI J n_p0 v5')] [] 20 []) : ∀ (N : Nat) (v4 : Int) (v5 : (Nat → Int)), sh_J7_fill_53178_L5 F n_p0 p1 k N v4 v5 = some res → Z p l e ({ frames := 0, cells := 0, slots := 0, locals := 0 } : Room) s m args below meth c (MQ below (zQ D J A (fun rv w9 => rv = none ∧ w9 = [(a_p0, zI J n_p0 res)])) args s 0 0 A) cJ7_fill_53178 4 wsJ7_fill_53178 RJ7 D J A none (yJ7_fill_53178.name, []) 0 0 [(a_p0, zI J n_p0 v5)] [(0, .ref a_p0), (1, .int (zi p1)), (2, .int (zi v4)), (3, .int (zi (n_p0 : Int)))] 5 [] := by
  intro N
  induction N with
  | zero =>
    intro v4 v5 hsh
    exact absurd hsh (by simp [sh_J7_fill_53178_L5])
  | succ N ih =>
    intro v4 v5 hsh
    rw [sh_J7_fill_53178_L5] at hsh
    refine z_iload_n (pc' := 6) 2 dJ7_fill_53178_5 rfl rfl rfl ?_
    refine z_iload_n (pc' := 7) 3 dJ7_fill_53178_6 rfl rfl rfl ?_
    have g6 := zkr_p hsh
    replace hsh := zkr_k hsh
    have g7 := zkr_p hsh
    replace hsh := zkr_k hsh
    refine z_icmp_ge (pc' := 10) (tgt := 20) dJ7_fill_53178_7 (by decide) g6 g7 rfl (fun q => ?_) (fun q => ?_)
    · replace hsh := zif_f q hsh
      refine z_perm [(a_p0, zI J n_p0 v5)] [] [0] [] rfl rfl rfl ?_
      exact hk _ _ hsh
    · replace hsh := zif_t q hsh
      refine z_aload_n (pc' := 11) 0 dJ7_fill_53178_10 rfl rfl rfl ?_
      refine z_iload_n (pc' := 12) 2 dJ7_fill_53178_11 rfl rfl rfl ?_
      refine z_iload_n (pc' := 13) 1 dJ7_fill_53178_12 rfl rfl rfl ?_
      have g8 := zkx_p hsh
      replace hsh := zkx_k hsh
      refine z_iastore (pc' := 14) 0 [(a_p0, zI J n_p0 (va_up v5 (v4).toNat p1))] dJ7_fill_53178_13 rfl hn_p0 g8 rfl rfl ?_
      refine z_iinc (pc' := 17) [(2, .int (zi (v4 + (1 : Int)))), (0, .ref a_p0), (1, .int (zi p1)), (3, .int (zi (n_p0 : Int)))] 2 dJ7_fill_53178_14 rfl (by decide) rfl rfl ?_
      refine z_goto (tgt := 5) dJ7_fill_53178_17 (by decide) ?_
      refine z_perm [(a_p0, zI J n_p0 (va_up v5 (v4).toNat p1))] [(0, .ref a_p0), (1, .int (zi p1)), (2, .int (zi (v4 + (1 : Int)))), (3, .int (zi (n_p0 : Int)))] [0] [1, 2, 0, 3] rfl rfl rfl ?_
      exact ih _ _ hsh
set_option maxRecDepth 100000 in
set_option maxHeartbeats 4000000 in
theorem zc_J7_fill_53178 (l : Launch) (D : va_G) (J : Nat → ClassId) (F : Nat) (a_p0 : Nat) (f_p0 : Nat → Int) (n_p0 : Nat) (p1 : Int) (hn_p0 : n_p0 ≤ 2147483647) (res : (Nat → Int)) (hsh : sh_J7_fill_53178 F f_p0 n_p0 p1 = some res) : ZM l D J yJ7_fill_53178 wsJ7_fill_53178 ({ frames := 0, cells := 0, slots := 0, locals := 0 } : Room) 0 0 [.ref a_p0, .int (zi p1)] [(a_p0, zI J n_p0 f_p0)] (fun rv w9 => rv = none ∧ w9 = [(a_p0, zI J n_p0 res)]) := by
  refine z_ofZ (cc := cJ7_fill_53178) (maxL := 4) (ret := none) 0 0 (by decide) rfl (Nat.le_of_ble_eq_true rfl) [(0, .ref a_p0), (1, .int (zi p1))] rfl ?_
  intro p e s m args below meth c A
  unfold sh_J7_fill_53178 at hsh
  refine z_iconst (pc' := 1) dJ7_fill_53178_0 rfl ?_
  refine z_istore_n (pc' := 2) [(2, .int (zi (0 : Int))), (0, .ref a_p0), (1, .int (zi p1))] dJ7_fill_53178_1 rfl (by decide) rfl rfl ?_
  refine z_aload_n (pc' := 3) 1 dJ7_fill_53178_2 rfl rfl rfl ?_
  refine z_alen (pc' := 4) (v := (n_p0 : Int)) 0 0 dJ7_fill_53178_3 rfl rfl rfl rfl ?_
  refine z_istore_n (pc' := 5) [(3, .int (zi (n_p0 : Int))), (2, .int (zi (0 : Int))), (0, .ref a_p0), (1, .int (zi p1))] dJ7_fill_53178_4 rfl (by decide) rfl rfl ?_
  refine z_perm [(a_p0, zI J n_p0 f_p0)] [(0, .ref a_p0), (1, .int (zi p1)), (2, .int (zi (0 : Int))), (3, .int (zi (n_p0 : Int)))] [0] [2, 3, 1, 0] rfl rfl rfl ?_
  refine zl_J7_fill_53178_L5 (F := F) (hn_p0 := hn_p0) (hk := fun v9 v10 hsh => ?_) _ _ _ hsh
  cases hsh
  exact z_vret rfl dJ7_fill_53178_20 ⟨rfl, rfl⟩
