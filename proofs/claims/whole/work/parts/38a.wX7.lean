def sh_X7_isFilled (F : Nat) (f_t_filled : Nat → Int) (p0 : Int) : Option (Int) := zkx p0 2 (zkc ((f_t_filled (p0).toNat) = 0 ∨ (f_t_filled (p0).toNat) = 1) (some ((f_t_filled (p0).toNat))))
theorem mX7_isFilled_f17 : Cond.fieldLink RX7 17 (TX7 1).1 (TX7 1).2.1 (TX7 1).2.2.1 ∈ wsX7_isFilled := List.mem_of_getElem? (i := 1) rfl
theorem iX7_isFilled_X7 : ∀ w ∈ wsX70, w ∈ wsX7_isFilled := fun _ h => (List.mem_cons_of_mem _ (List.mem_append_right _ h))
set_option maxRecDepth 100000 in
set_option maxHeartbeats 4000000 in
theorem zc_X7_isFilled (l : Launch) (D : va_G) (J : Nat → ClassId) (F : Nat) (a_t : Nat) (a_t_states : Nat) (a_t_filled : Nat) (f_t_filled : Nat → Int) (p0 : Int) (res : Int) (hsh : sh_X7_isFilled F f_t_filled p0 = some res) : ZM l D J yX7_isFilled wsX7_isFilled ({ frames := 0, cells := 0, slots := 0, locals := 0 } : Room) 0 0 [.ref a_t, .int (zi p0)] [(a_t, .inr (6, [.ref a_t_states, .ref a_t_filled])), (a_t_filled, zB J 2 f_t_filled)] (fun rv w9 => rv = some (.int (zi res)) ∧ w9 = [(a_t, .inr (6, [.ref a_t_states, .ref a_t_filled])), (a_t_filled, zB J 2 f_t_filled)]) := by
  refine z_ofZ (cc := cX7_isFilled) (maxL := 2) (ret := (some .boolean)) 0 0 (by decide) rfl (Nat.le_of_ble_eq_true rfl) [(0, .ref a_t), (1, .int (zi p0))] rfl ?_
  intro p e s m args below meth c A
  unfold sh_X7_isFilled at hsh
  refine z_aload_n (pc' := 1) 0 dX7_isFilled_0 rfl rfl rfl ?_
  refine z_getfield (pc' := 4) (C := RX7) (T := TX7) (N := 2) 0 1 dX7_isFilled_1 iX7_isFilled_X7 rfl rfl (by decide) mX7_isFilled_f17 rfl rfl ?_
  refine z_iload_n (pc' := 5) 1 dX7_isFilled_4 rfl rfl rfl ?_
  have g1 := zkx_p hsh
  replace hsh := zkx_k hsh
  refine z_baload (pc' := 6) 1 dX7_isFilled_5 rfl (by decide) g1 rfl ?_
  have g2 := zkc_p hsh
  replace hsh := zkc_k hsh
  cases hsh
  exact z_zret rfl (zn_z g2) dX7_isFilled_6 ⟨rfl, rfl⟩
def sh_X7_forget_L2 (F : Nat) (k : Int → (Nat → Int) → Option ((Nat → Int))) : Nat → Int → (Nat → Int) → Option ((Nat → Int))
  | 0, _, _ => none
  | N + 1, v4, v5 => zkr v4 (if v4 < (2 : Int) then zkx v4 2 (sh_X7_forget_L2 F k N (v4 + (1 : Int)) (va_up v5 (v4).toNat (0 : Int))) else k v4 v5)
def sh_X7_forget (F : Nat) (f_t_filled : Nat → Int) : Option ((Nat → Int)) := sh_X7_forget_L2 F (fun (v8 : Int) (v9 : (Nat → Int)) => some (v9)) F (0 : Int) f_t_filled
theorem mX7_forget_f17 : Cond.fieldLink RX7 17 (TX7 1).1 (TX7 1).2.1 (TX7 1).2.2.1 ∈ wsX7_forget := List.mem_of_getElem? (i := 1) rfl
theorem iX7_forget_X7 : ∀ w ∈ wsX70, w ∈ wsX7_forget := fun _ h => (List.mem_cons_of_mem _ (List.mem_append_right _ h))
set_option maxRecDepth 100000 in
set_option maxHeartbeats 4000000 in
theorem zl_X7_forget_L2 {p : Program} {l : Launch} {e : Env} {s : State} {m : MethodId} {args : Array Value} {below : List Frame} {meth : Method} {c : Code} {A : Nat → Prop} {D : va_G} {J : Nat → ClassId} {F : Nat} {a_t : Nat} {a_t_states : Nat} {a_t_filled : Nat} {res : (Nat → Int)} {k : Int → (Nat → Int) → Option ((Nat → Int))} (hk : ∀ (v4' : Int) (v5' : (Nat → Int)), k v4' v5' = some res → Z p l e ({ frames := 0, cells := 0, slots := 0, locals := 0 } : Room) s m args below meth c (MQ below (zQ D J A (fun rv w9 => rv = none ∧ w9 = [(a_t, .inr (6, [.ref a_t_states, .ref a_t_filled])), (a_t_filled, zB J 2 res)])) args s 0 0 A) cX7_forget 2 wsX7_forget RX7 D J A none (yX7_forget.name, []) 0 0 [(a_t, .inr (6, [.ref a_t_states, .ref a_t_filled])), (a_t_filled, zB J 2 v5')] [] 20 []) : ∀ (N : Nat) (v4 : Int) (v5 : (Nat → Int)), sh_X7_forget_L2 F k N v4 v5 = some res → Z p l e ({ frames := 0, cells := 0, slots := 0, locals := 0 } : Room) s m args below meth c (MQ below (zQ D J A (fun rv w9 => rv = none ∧ w9 = [(a_t, .inr (6, [.ref a_t_states, .ref a_t_filled])), (a_t_filled, zB J 2 res)])) args s 0 0 A) cX7_forget 2 wsX7_forget RX7 D J A none (yX7_forget.name, []) 0 0 [(a_t, .inr (6, [.ref a_t_states, .ref a_t_filled])), (a_t_filled, zB J 2 v5)] [(0, .ref a_t), (1, .int (zi v4))] 2 [] := by
  intro N
  induction N with
  | zero =>
    intro v4 v5 hsh
    exact absurd hsh (by simp [sh_X7_forget_L2])
  | succ N ih =>
    intro v4 v5 hsh
    rw [sh_X7_forget_L2] at hsh
    refine z_iload_n (pc' := 3) 1 dX7_forget_2 rfl rfl rfl ?_
    refine z_iconst (pc' := 4) dX7_forget_3 rfl ?_
    have g6 := zkr_p hsh
    replace hsh := zkr_k hsh
    refine z_icmp_ge (pc' := 7) (tgt := 20) dX7_forget_4 (by decide) g6 (by decide) rfl (fun q => ?_) (fun q => ?_)
    · replace hsh := zif_f q hsh
      refine z_perm [(a_t, .inr (6, [.ref a_t_states, .ref a_t_filled])), (a_t_filled, zB J 2 v5)] [] [0, 1] [] rfl rfl rfl ?_
      exact hk _ _ hsh
    · replace hsh := zif_t q hsh
      refine z_aload_n (pc' := 8) 0 dX7_forget_7 rfl rfl rfl ?_
      refine z_getfield (pc' := 11) (C := RX7) (T := TX7) (N := 2) 0 1 dX7_forget_8 iX7_forget_X7 rfl rfl (by decide) mX7_forget_f17 rfl rfl ?_
      refine z_iload_n (pc' := 12) 1 dX7_forget_11 rfl rfl rfl ?_
      refine z_iconst (pc' := 13) dX7_forget_12 rfl ?_
      have g7 := zkx_p hsh
      replace hsh := zkx_k hsh
      refine z_bastore (pc' := 14) 1 [(a_t, .inr (6, [.ref a_t_states, .ref a_t_filled])), (a_t_filled, zB J 2 (va_up v5 (v4).toNat (0 : Int)))] dX7_forget_13 rfl (by decide) g7 (by decide) rfl rfl ?_
      refine z_iinc (pc' := 17) [(1, .int (zi (v4 + (1 : Int)))), (0, .ref a_t)] 1 dX7_forget_14 rfl (by decide) rfl rfl ?_
      refine z_goto (tgt := 2) dX7_forget_17 (by decide) ?_
      refine z_perm [(a_t, .inr (6, [.ref a_t_states, .ref a_t_filled])), (a_t_filled, zB J 2 (va_up v5 (v4).toNat (0 : Int)))] [(0, .ref a_t), (1, .int (zi (v4 + (1 : Int))))] [0, 1] [1, 0] rfl rfl rfl ?_
      exact ih _ _ hsh
set_option maxRecDepth 100000 in
set_option maxHeartbeats 4000000 in
theorem zc_X7_forget (l : Launch) (D : va_G) (J : Nat → ClassId) (F : Nat) (a_t : Nat) (a_t_states : Nat) (a_t_filled : Nat) (f_t_filled : Nat → Int) (res : (Nat → Int)) (hsh : sh_X7_forget F f_t_filled = some res) : ZM l D J yX7_forget wsX7_forget ({ frames := 0, cells := 0, slots := 0, locals := 0 } : Room) 0 0 [.ref a_t] [(a_t, .inr (6, [.ref a_t_states, .ref a_t_filled])), (a_t_filled, zB J 2 f_t_filled)] (fun rv w9 => rv = none ∧ w9 = [(a_t, .inr (6, [.ref a_t_states, .ref a_t_filled])), (a_t_filled, zB J 2 res)]) := by
  refine z_ofZ (cc := cX7_forget) (maxL := 2) (ret := none) 0 0 (by decide) rfl (Nat.le_of_ble_eq_true rfl) [(0, .ref a_t)] rfl ?_
  intro p e s m args below meth c A
  unfold sh_X7_forget at hsh
  refine z_iconst (pc' := 1) dX7_forget_0 rfl ?_
  refine z_istore_n (pc' := 2) [(1, .int (zi (0 : Int))), (0, .ref a_t)] dX7_forget_1 rfl (by decide) rfl rfl ?_
  refine z_perm [(a_t, .inr (6, [.ref a_t_states, .ref a_t_filled])), (a_t_filled, zB J 2 f_t_filled)] [(0, .ref a_t), (1, .int (zi (0 : Int)))] [0, 1] [1, 0] rfl rfl rfl ?_
  refine zl_X7_forget_L2 (F := F) (hk := fun v8 v9 hsh => ?_) _ _ _ hsh
  cases hsh
  exact z_vret rfl dX7_forget_20 ⟨rfl, rfl⟩
