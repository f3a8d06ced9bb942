def sh_X4_isEmpty (F : Nat) (c_t_count : Int) : Option (Int) := zkr c_t_count (if c_t_count = (0 : Int) then some ((1 : Int)) else some ((0 : Int)))
theorem mX4_isEmpty_f18 : Cond.fieldLink RX4 18 (TX4 2).1 (TX4 2).2.1 (TX4 2).2.2.1 ∈ wsX4_isEmpty := List.mem_of_getElem? (i := 1) rfl
theorem iX4_isEmpty_X4 : ∀ w ∈ wsX40, w ∈ wsX4_isEmpty := fun _ h => (List.mem_cons_of_mem _ (List.mem_append_right _ h))
set_option maxRecDepth 100000 in
set_option maxHeartbeats 4000000 in
theorem zc_X4_isEmpty (l : Launch) (D : va_G) (J : Nat → ClassId) (F : Nat) (a_t : Nat) (a_t_states : Nat) (c_t_oldest : Int) (c_t_count : Int) (res : Int) (hsh : sh_X4_isEmpty F c_t_count = some res) : ZM l D J yX4_isEmpty wsX4_isEmpty ({ frames := 0, cells := 0, slots := 0, locals := 0 } : Room) 0 0 [.ref a_t] [(a_t, .inr (4, [.ref a_t_states, .int (zi c_t_oldest), .int (zi c_t_count)]))] (fun rv w9 => rv = some (.int (zi res)) ∧ w9 = [(a_t, .inr (4, [.ref a_t_states, .int (zi c_t_oldest), .int (zi c_t_count)]))]) := by
  refine z_ofZ (cc := cX4_isEmpty) (maxL := 1) (ret := (some .boolean)) 0 0 (by decide) rfl (Nat.le_of_ble_eq_true rfl) [(0, .ref a_t)] rfl ?_
  intro p e s m args below meth c A
  unfold sh_X4_isEmpty at hsh
  refine z_aload_n (pc' := 1) 0 dX4_isEmpty_0 rfl rfl rfl ?_
  refine z_getfield (pc' := 4) (C := RX4) (T := TX4) (N := 3) 0 2 dX4_isEmpty_1 iX4_isEmpty_X4 rfl rfl (by decide) mX4_isEmpty_f18 rfl rfl ?_
  have g1 := zkr_p hsh
  replace hsh := zkr_k hsh
  refine z_if_ne (pc' := 7) (tgt := 11) dX4_isEmpty_4 (by decide) g1 rfl (fun q => ?_) (fun q => ?_)
  · replace hsh := zif_f q hsh
    refine z_iconst (pc' := 12) dX4_isEmpty_11 rfl ?_
    cases hsh
    exact z_zret rfl (by decide) dX4_isEmpty_12 ⟨rfl, rfl⟩
  · replace hsh := zif_t q hsh
    refine z_iconst (pc' := 8) dX4_isEmpty_7 rfl ?_
    refine z_goto (tgt := 12) dX4_isEmpty_8 (by decide) ?_
    cases hsh
    exact z_zret rfl (by decide) dX4_isEmpty_12 ⟨rfl, rfl⟩
def sh_X4_forget (F : Nat) : Option (Int × Int) := some ((0 : Int), (0 : Int))
theorem mX4_forget_f22 : Cond.fieldLink RX4 22 (TX4 1).1 (TX4 1).2.1 (TX4 1).2.2.1 ∈ wsX4_forget := List.mem_of_getElem? (i := 1) rfl
theorem iX4_forget_X4 : ∀ w ∈ wsX40, w ∈ wsX4_forget := fun _ h => (List.mem_cons_of_mem _ (List.mem_append_right _ h))
theorem mX4_forget_f18 : Cond.fieldLink RX4 18 (TX4 2).1 (TX4 2).2.1 (TX4 2).2.2.1 ∈ wsX4_forget := List.mem_of_getElem? (i := 2) rfl
set_option maxRecDepth 100000 in
set_option maxHeartbeats 4000000 in
theorem zc_X4_forget (l : Launch) (D : va_G) (J : Nat → ClassId) (F : Nat) (a_t : Nat) (a_t_states : Nat) (c_t_oldest : Int) (c_t_count : Int) (res : Int × Int) (hsh : sh_X4_forget F = some res) : ZM l D J yX4_forget wsX4_forget ({ frames := 0, cells := 0, slots := 0, locals := 0 } : Room) 0 0 [.ref a_t] [(a_t, .inr (4, [.ref a_t_states, .int (zi c_t_oldest), .int (zi c_t_count)]))] (fun rv w9 => rv = none ∧ w9 = [(a_t, .inr (4, [.ref a_t_states, .int (zi res.1), .int (zi res.2)]))]) := by
  refine z_ofZ (cc := cX4_forget) (maxL := 1) (ret := none) 0 0 (by decide) rfl (Nat.le_of_ble_eq_true rfl) [(0, .ref a_t)] rfl ?_
  intro p e s m args below meth c A
  unfold sh_X4_forget at hsh
  refine z_aload_n (pc' := 1) 0 dX4_forget_0 rfl rfl rfl ?_
  refine z_iconst (pc' := 2) dX4_forget_1 rfl ?_
  refine z_putfield (pc' := 5) (C := RX4) (T := TX4) (N := 3) (ty := .int) 0 1 [(a_t, .inr (4, [.ref a_t_states, .int (zi (0 : Int)), .int (zi c_t_count)]))] tyX4 tyX4_ok nmX4 dX4_forget_2 iX4_forget_X4 rfl rfl (by decide) mX4_forget_f22 rfl (by decide +kernel) rfl rfl (Nat.le_of_ble_eq_true rfl) rfl rfl rfl ?_
  refine z_aload_n (pc' := 6) 0 dX4_forget_5 rfl rfl rfl ?_
  refine z_iconst (pc' := 7) dX4_forget_6 rfl ?_
  refine z_putfield (pc' := 10) (C := RX4) (T := TX4) (N := 3) (ty := .int) 0 2 [(a_t, .inr (4, [.ref a_t_states, .int (zi (0 : Int)), .int (zi (0 : Int))]))] tyX4 tyX4_ok nmX4 dX4_forget_7 iX4_forget_X4 rfl rfl (by decide) mX4_forget_f18 rfl (by decide +kernel) rfl rfl (Nat.le_of_ble_eq_true rfl) rfl rfl rfl ?_
  cases hsh
  exact z_vret rfl dX4_forget_10 ⟨rfl, rfl⟩
