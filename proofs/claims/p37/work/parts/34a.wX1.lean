def sh_X1_isFull (F : Nat) (c_t_length : Int) : Option (Int) := zkr c_t_length (if c_t_length < (120 : Int) then some ((0 : Int)) else some ((1 : Int)))
theorem mX1_isFull_f15 : Cond.fieldLink RX1 15 (TX1 1).1 (TX1 1).2.1 (TX1 1).2.2.1 ∈ wsX1_isFull := List.mem_of_getElem? (i := 1) rfl
theorem iX1_isFull_X1 : ∀ w ∈ wsX10, w ∈ wsX1_isFull := fun _ h => (List.mem_cons_of_mem _ (List.mem_append_right _ h))
set_option maxRecDepth 100000 in
set_option maxHeartbeats 4000000 in
theorem zc_X1_isFull (l : Launch) (D : va_G) (J : Nat → ClassId) (F : Nat) (a_t : Nat) (a_t_signs : Nat) (c_t_length : Int) (res : Int) (hsh : sh_X1_isFull F c_t_length = some res) : ZM l D J yX1_isFull wsX1_isFull ({ frames := 0, cells := 0, slots := 0, locals := 0 } : Room) 0 0 [.ref a_t] [(a_t, .inr (1, [.ref a_t_signs, .int (zi c_t_length)]))] (fun rv w9 => rv = some (.int (zi res)) ∧ w9 = [(a_t, .inr (1, [.ref a_t_signs, .int (zi c_t_length)]))]) := by
  refine z_ofZ (cc := cX1_isFull) (maxL := 1) (ret := (some .boolean)) 0 0 (by decide) rfl (Nat.le_of_ble_eq_true rfl) [(0, .ref a_t)] rfl ?_
  intro p e s m args below meth c A
  unfold sh_X1_isFull at hsh
  refine z_aload_n (pc' := 1) 0 dX1_isFull_0 rfl rfl rfl ?_
  refine z_getfield (pc' := 4) (C := RX1) (T := TX1) (N := 2) 0 1 dX1_isFull_1 iX1_isFull_X1 rfl rfl (by decide) mX1_isFull_f15 rfl rfl ?_
  refine z_bipush (pc' := 6) dX1_isFull_4 (by decide) rfl ?_
  have g1 := zkr_p hsh
  replace hsh := zkr_k hsh
  refine z_icmp_lt (pc' := 9) (tgt := 13) dX1_isFull_6 (by decide) g1 (by decide) rfl (fun q => ?_) (fun q => ?_)
  · replace hsh := zif_t q hsh
    refine z_iconst (pc' := 14) dX1_isFull_13 rfl ?_
    cases hsh
    exact z_zret rfl (by decide) dX1_isFull_14 ⟨rfl, rfl⟩
  · replace hsh := zif_f q hsh
    refine z_iconst (pc' := 10) dX1_isFull_9 rfl ?_
    refine z_goto (tgt := 14) dX1_isFull_10 (by decide) ?_
    cases hsh
    exact z_zret rfl (by decide) dX1_isFull_14 ⟨rfl, rfl⟩
def sh_X1_put (F : Nat) (c_t_length : Int) (f_t_signs : Nat → Int) (p0 : Int) : Option (Int × Int × (Nat → Int)) := zkr c_t_length (if c_t_length < (120 : Int) then zkc (0 ≤ p0 ∧ p0 < 65536) (zkx c_t_length 120 (some ((c_t_length + (1 : Int)), (c_t_length + (1 : Int)), (va_up f_t_signs (c_t_length).toNat p0)))) else some (c_t_length, c_t_length, f_t_signs))
theorem mX1_put_f15 : Cond.fieldLink RX1 15 (TX1 1).1 (TX1 1).2.1 (TX1 1).2.2.1 ∈ wsX1_put := List.mem_of_getElem? (i := 1) rfl
theorem iX1_put_X1 : ∀ w ∈ wsX10, w ∈ wsX1_put := fun _ h => (List.mem_cons_of_mem _ (List.mem_append_right _ h))
theorem mX1_put_f9 : Cond.fieldLink RX1 9 (TX1 0).1 (TX1 0).2.1 (TX1 0).2.2.1 ∈ wsX1_put := List.mem_of_getElem? (i := 2) rfl
set_option maxRecDepth 100000 in
set_option maxHeartbeats 4000000 in
theorem zc_X1_put (l : Launch) (D : va_G) (J : Nat → ClassId) (F : Nat) (a_t : Nat) (a_t_signs : Nat) (c_t_length : Int) (f_t_signs : Nat → Int) (p0 : Int) (res : Int × Int × (Nat → Int)) (hsh : sh_X1_put F c_t_length f_t_signs p0 = some res) : ZM l D J yX1_put wsX1_put ({ frames := 0, cells := 0, slots := 0, locals := 0 } : Room) 0 0 [.ref a_t, .int (zi p0)] [(a_t, .inr (1, [.ref a_t_signs, .int (zi c_t_length)])), (a_t_signs, zC J 120 f_t_signs)] (fun rv w9 => rv = some (.int (zi res.1)) ∧ w9 = [(a_t, .inr (1, [.ref a_t_signs, .int (zi res.2.1)])), (a_t_signs, zC J 120 res.2.2)]) := by
  refine z_ofZ (cc := cX1_put) (maxL := 2) (ret := (some .int)) 0 0 (by decide) rfl (Nat.le_of_ble_eq_true rfl) [(0, .ref a_t), (1, .int (zi p0))] rfl ?_
  intro p e s m args below meth c A
  unfold sh_X1_put at hsh
  refine z_aload_n (pc' := 1) 0 dX1_put_0 rfl rfl rfl ?_
  refine z_getfield (pc' := 4) (C := RX1) (T := TX1) (N := 2) 0 1 dX1_put_1 iX1_put_X1 rfl rfl (by decide) mX1_put_f15 rfl rfl ?_
  refine z_bipush (pc' := 6) dX1_put_4 (by decide) rfl ?_
  have g1 := zkr_p hsh
  replace hsh := zkr_k hsh
  refine z_icmp_ge (pc' := 9) (tgt := 30) dX1_put_6 (by decide) g1 (by decide) rfl (fun q => ?_) (fun q => ?_)
  · replace hsh := zif_f q hsh
    refine z_aload_n (pc' := 31) 0 dX1_put_30 rfl rfl rfl ?_
    refine z_getfield (pc' := 34) (C := RX1) (T := TX1) (N := 2) 0 1 dX1_put_31 iX1_put_X1 rfl rfl (by decide) mX1_put_f15 rfl rfl ?_
    cases hsh
    exact z_iret rfl dX1_put_34 ⟨rfl, rfl⟩
  · replace hsh := zif_t q hsh
    refine z_aload_n (pc' := 10) 0 dX1_put_9 rfl rfl rfl ?_
    refine z_getfield (pc' := 13) (C := RX1) (T := TX1) (N := 2) 0 0 dX1_put_10 iX1_put_X1 rfl rfl (by decide) mX1_put_f9 rfl rfl ?_
    refine z_aload_n (pc' := 14) 0 dX1_put_13 rfl rfl rfl ?_
    refine z_getfield (pc' := 17) (C := RX1) (T := TX1) (N := 2) 0 1 dX1_put_14 iX1_put_X1 rfl rfl (by decide) mX1_put_f15 rfl rfl ?_
    refine z_iload_n (pc' := 18) 1 dX1_put_17 rfl rfl rfl ?_
    have g2 := zkc_p hsh
    replace hsh := zkc_k hsh
    refine z_i2c (pc' := 19) dX1_put_18 g2 rfl ?_
    have g3 := zkx_p hsh
    replace hsh := zkx_k hsh
    refine z_castore (pc' := 20) 1 [(a_t, .inr (1, [.ref a_t_signs, .int (zi c_t_length)])), (a_t_signs, zC J 120 (va_up f_t_signs (c_t_length).toNat p0))] dX1_put_19 rfl (by decide) g3 g2 rfl rfl ?_
    refine z_aload_n (pc' := 21) 0 dX1_put_20 rfl rfl rfl ?_
    refine z_dup (pc' := 22) dX1_put_21 rfl rfl ?_
    refine z_getfield (pc' := 25) (C := RX1) (T := TX1) (N := 2) 0 1 dX1_put_22 iX1_put_X1 rfl rfl (by decide) mX1_put_f15 rfl rfl ?_
    refine z_iconst (pc' := 26) dX1_put_25 rfl ?_
    refine z_iadd (pc' := 27) dX1_put_26 rfl ?_
    refine z_putfield (pc' := 30) (C := RX1) (T := TX1) (N := 2) (ty := .int) 0 1 [(a_t, .inr (1, [.ref a_t_signs, .int (zi (c_t_length + (1 : Int)))])), (a_t_signs, zC J 120 (va_up f_t_signs (c_t_length).toNat p0))] tyX1 tyX1_ok nmX1 dX1_put_27 iX1_put_X1 rfl rfl (by decide) mX1_put_f15 rfl (by decide +kernel) rfl rfl (Nat.le_of_ble_eq_true rfl) rfl rfl rfl ?_
    refine z_aload_n (pc' := 31) 0 dX1_put_30 rfl rfl rfl ?_
    refine z_getfield (pc' := 34) (C := RX1) (T := TX1) (N := 2) 0 1 dX1_put_31 iX1_put_X1 rfl rfl (by decide) mX1_put_f15 rfl rfl ?_
    cases hsh
    exact z_iret rfl dX1_put_34 ⟨rfl, rfl⟩
def sh_X1_sign (F : Nat) (c_t_length : Int) (f_t_signs : Nat → Int) (p0 : Int) : Option (Int) := zkr p0 (if p0 < (0 : Int) then some ((-1 : Int)) else zkr c_t_length (if p0 < c_t_length then zkx p0 120 (some ((f_t_signs (p0).toNat))) else some ((-1 : Int))))
theorem mX1_sign_f15 : Cond.fieldLink RX1 15 (TX1 1).1 (TX1 1).2.1 (TX1 1).2.2.1 ∈ wsX1_sign := List.mem_of_getElem? (i := 1) rfl
theorem iX1_sign_X1 : ∀ w ∈ wsX10, w ∈ wsX1_sign := fun _ h => (List.mem_cons_of_mem _ (List.mem_append_right _ h))
theorem mX1_sign_f9 : Cond.fieldLink RX1 9 (TX1 0).1 (TX1 0).2.1 (TX1 0).2.2.1 ∈ wsX1_sign := List.mem_of_getElem? (i := 2) rfl
set_option maxRecDepth 100000 in
set_option maxHeartbeats 4000000 in
theorem zc_X1_sign (l : Launch) (D : va_G) (J : Nat → ClassId) (F : Nat) (a_t : Nat) (a_t_signs : Nat) (c_t_length : Int) (f_t_signs : Nat → Int) (p0 : Int) (res : Int) (hsh : sh_X1_sign F c_t_length f_t_signs p0 = some res) : ZM l D J yX1_sign wsX1_sign ({ frames := 0, cells := 0, slots := 0, locals := 0 } : Room) 0 0 [.ref a_t, .int (zi p0)] [(a_t, .inr (1, [.ref a_t_signs, .int (zi c_t_length)])), (a_t_signs, zC J 120 f_t_signs)] (fun rv w9 => rv = some (.int (zi res)) ∧ w9 = [(a_t, .inr (1, [.ref a_t_signs, .int (zi c_t_length)])), (a_t_signs, zC J 120 f_t_signs)]) := by
  refine z_ofZ (cc := cX1_sign) (maxL := 2) (ret := (some .int)) 0 0 (by decide) rfl (Nat.le_of_ble_eq_true rfl) [(0, .ref a_t), (1, .int (zi p0))] rfl ?_
  intro p e s m args below meth c A
  unfold sh_X1_sign at hsh
  refine z_iload_n (pc' := 1) 1 dX1_sign_0 rfl rfl rfl ?_
  have g1 := zkr_p hsh
  replace hsh := zkr_k hsh
  refine z_if_lt (pc' := 4) (tgt := 21) dX1_sign_1 (by decide) g1 rfl (fun q => ?_) (fun q => ?_)
  · replace hsh := zif_t q hsh
    refine z_iconst (pc' := 22) dX1_sign_21 rfl ?_
    cases hsh
    exact z_iret rfl dX1_sign_22 ⟨rfl, rfl⟩
  · replace hsh := zif_f q hsh
    refine z_iload_n (pc' := 5) 1 dX1_sign_4 rfl rfl rfl ?_
    refine z_aload_n (pc' := 6) 0 dX1_sign_5 rfl rfl rfl ?_
    refine z_getfield (pc' := 9) (C := RX1) (T := TX1) (N := 2) 0 1 dX1_sign_6 iX1_sign_X1 rfl rfl (by decide) mX1_sign_f15 rfl rfl ?_
    have g2 := zkr_p hsh
    replace hsh := zkr_k hsh
    refine z_icmp_ge (pc' := 12) (tgt := 21) dX1_sign_9 (by decide) g1 g2 rfl (fun q => ?_) (fun q => ?_)
    · replace hsh := zif_f q hsh
      refine z_iconst (pc' := 22) dX1_sign_21 rfl ?_
      cases hsh
      exact z_iret rfl dX1_sign_22 ⟨rfl, rfl⟩
    · replace hsh := zif_t q hsh
      refine z_aload_n (pc' := 13) 0 dX1_sign_12 rfl rfl rfl ?_
      refine z_getfield (pc' := 16) (C := RX1) (T := TX1) (N := 2) 0 0 dX1_sign_13 iX1_sign_X1 rfl rfl (by decide) mX1_sign_f9 rfl rfl ?_
      refine z_iload_n (pc' := 17) 1 dX1_sign_16 rfl rfl rfl ?_
      have g3 := zkx_p hsh
      replace hsh := zkx_k hsh
      refine z_caload (pc' := 18) 1 dX1_sign_17 rfl (by decide) g3 rfl ?_
      refine z_goto (tgt := 22) dX1_sign_18 (by decide) ?_
      cases hsh
      exact z_iret rfl dX1_sign_22 ⟨rfl, rfl⟩
def sh_X1_digit (F : Nat) (c_t_length : Int) (f_t_signs : Nat → Int) (p0 : Int) : Option (Int) := (sh_X1_sign F c_t_length f_t_signs p0).bind (fun (q1 : Int) => some ((q1 - (48 : Int))))
set_option maxRecDepth 100000 in
set_option maxHeartbeats 4000000 in
theorem zc_X1_digit (l : Launch) (D : va_G) (J : Nat → ClassId) (F : Nat) (a_t : Nat) (a_t_signs : Nat) (c_t_length : Int) (f_t_signs : Nat → Int) (p0 : Int) (res : Int) (hsh : sh_X1_digit F c_t_length f_t_signs p0 = some res) : ZM l D J yX1_digit wsX1_digit ({ frames := 1, cells := 0, slots := 0, locals := 21 } : Room) 0 0 [.ref a_t, .int (zi p0)] [(a_t, .inr (1, [.ref a_t_signs, .int (zi c_t_length)])), (a_t_signs, zC J 120 f_t_signs)] (fun rv w9 => rv = some (.int (zi res)) ∧ w9 = [(a_t, .inr (1, [.ref a_t_signs, .int (zi c_t_length)])), (a_t_signs, zC J 120 f_t_signs)]) := by
  refine z_ofZ (cc := cX1_digit) (maxL := 2) (ret := (some .int)) 0 0 (by decide) rfl (Nat.le_of_ble_eq_true rfl) [(0, .ref a_t), (1, .int (zi p0))] rfl ?_
  intro p e s m args below meth c A
  unfold sh_X1_digit at hsh
  refine z_aload_n (pc' := 1) 0 dX1_digit_0 rfl rfl rfl ?_
  refine z_iload_n (pc' := 2) 1 dX1_digit_1 rfl rfl rfl ?_
  obtain ⟨q1, h2, hsh⟩ := zbind hsh
  refine z_callV (pc' := 5) (C := RX1) (As := [.int (zi p0)]) (rest := []) (wr := []) 1 (zc_X1_sign l D J F (a_t := a_t) (a_t_signs := a_t_signs) (c_t_length := c_t_length) (f_t_signs := f_t_signs) (p0 := p0)  q1 h2) dX1_digit_2 gX1_digit_X1_sign rfl rfl rfl (by decide +kernel) ⟨Nat.le_of_ble_eq_true rfl, Nat.le_of_ble_eq_true rfl⟩ ⟨Nat.le_of_ble_eq_true rfl, Nat.le_of_ble_eq_true rfl⟩ (z_spl_of [0, 1] rfl rfl) rfl rfl rfl rfl (Nat.le_of_ble_eq_true rfl) rfl (fun rv w9 hq => ?_)
  obtain ⟨rfl, rfl⟩ := hq
  refine z_ws [(a_t, .inr (1, [.ref a_t_signs, .int (zi c_t_length)])), (a_t_signs, zC J 120 f_t_signs)] rfl ?_
  refine z_bipush (pc' := 7) dX1_digit_5 (by decide) rfl ?_
  refine z_isub (pc' := 8) dX1_digit_7 rfl ?_
  cases hsh
  exact z_iret rfl dX1_digit_8 ⟨rfl, rfl⟩
def sh_X1_isDigit (F : Nat) (c_t_length : Int) (f_t_signs : Nat → Int) (p0 : Int) (p1 : Int) (p2 : Int) : Option (Int) := (sh_X1_digit F c_t_length f_t_signs p0).bind (fun (q1 : Int) => zkr q1 (zkr p1 (if q1 < p1 then some ((0 : Int)) else (sh_X1_digit F c_t_length f_t_signs p0).bind (fun (q5 : Int) => zkr q5 (zkr p2 (if p2 < q5 then some ((0 : Int)) else some ((1 : Int))))))))
set_option maxRecDepth 100000 in
set_option maxHeartbeats 4000000 in
theorem zc_X1_isDigit (l : Launch) (D : va_G) (J : Nat → ClassId) (F : Nat) (a_t : Nat) (a_t_signs : Nat) (c_t_length : Int) (f_t_signs : Nat → Int) (p0 : Int) (p1 : Int) (p2 : Int) (res : Int) (hsh : sh_X1_isDigit F c_t_length f_t_signs p0 p1 p2 = some res) : ZM l D J yX1_isDigit wsX1_isDigit ({ frames := 2, cells := 0, slots := 0, locals := 42 } : Room) 0 0 [.ref a_t, .int (zi p0), .int (zi p1), .int (zi p2)] [(a_t, .inr (1, [.ref a_t_signs, .int (zi c_t_length)])), (a_t_signs, zC J 120 f_t_signs)] (fun rv w9 => rv = some (.int (zi res)) ∧ w9 = [(a_t, .inr (1, [.ref a_t_signs, .int (zi c_t_length)])), (a_t_signs, zC J 120 f_t_signs)]) := by
  refine z_ofZ (cc := cX1_isDigit) (maxL := 4) (ret := (some .boolean)) 0 0 (by decide) rfl (Nat.le_of_ble_eq_true rfl) [(0, .ref a_t), (1, .int (zi p0)), (2, .int (zi p1)), (3, .int (zi p2))] rfl ?_
  intro p e s m args below meth c A
  unfold sh_X1_isDigit at hsh
  refine z_aload_n (pc' := 1) 0 dX1_isDigit_0 rfl rfl rfl ?_
  refine z_iload_n (pc' := 2) 1 dX1_isDigit_1 rfl rfl rfl ?_
  obtain ⟨q1, h2, hsh⟩ := zbind hsh
  refine z_callV (pc' := 5) (C := RX1) (As := [.int (zi p0)]) (rest := []) (wr := []) 1 (zc_X1_digit l D J F (a_t := a_t) (a_t_signs := a_t_signs) (c_t_length := c_t_length) (f_t_signs := f_t_signs) (p0 := p0)  q1 h2) dX1_isDigit_2 gX1_isDigit_X1_digit rfl rfl rfl (by decide +kernel) ⟨Nat.le_of_ble_eq_true rfl, Nat.le_of_ble_eq_true rfl⟩ ⟨Nat.le_of_ble_eq_true rfl, Nat.le_of_ble_eq_true rfl⟩ (z_spl_of [0, 1] rfl rfl) rfl rfl rfl rfl (Nat.le_of_ble_eq_true rfl) rfl (fun rv w9 hq => ?_)
  obtain ⟨rfl, rfl⟩ := hq
  refine z_ws [(a_t, .inr (1, [.ref a_t_signs, .int (zi c_t_length)])), (a_t_signs, zC J 120 f_t_signs)] rfl ?_
  refine z_iload_n (pc' := 6) 2 dX1_isDigit_5 rfl rfl rfl ?_
  have g3 := zkr_p hsh
  replace hsh := zkr_k hsh
  have g4 := zkr_p hsh
  replace hsh := zkr_k hsh
  refine z_icmp_lt (pc' := 9) (tgt := 22) dX1_isDigit_6 (by decide) g3 g4 rfl (fun q => ?_) (fun q => ?_)
  · replace hsh := zif_t q hsh
    refine z_iconst (pc' := 23) dX1_isDigit_22 rfl ?_
    cases hsh
    exact z_zret rfl (by decide) dX1_isDigit_23 ⟨rfl, rfl⟩
  · replace hsh := zif_f q hsh
    refine z_aload_n (pc' := 10) 0 dX1_isDigit_9 rfl rfl rfl ?_
    refine z_iload_n (pc' := 11) 1 dX1_isDigit_10 rfl rfl rfl ?_
    obtain ⟨q5, h6, hsh⟩ := zbind hsh
    refine z_callV (pc' := 14) (C := RX1) (As := [.int (zi p0)]) (rest := []) (wr := []) 1 (zc_X1_digit l D J F (a_t := a_t) (a_t_signs := a_t_signs) (c_t_length := c_t_length) (f_t_signs := f_t_signs) (p0 := p0)  q5 h6) dX1_isDigit_11 gX1_isDigit_X1_digit rfl rfl rfl (by decide +kernel) ⟨Nat.le_of_ble_eq_true rfl, Nat.le_of_ble_eq_true rfl⟩ ⟨Nat.le_of_ble_eq_true rfl, Nat.le_of_ble_eq_true rfl⟩ (z_spl_of [0, 1] rfl rfl) rfl rfl rfl rfl (Nat.le_of_ble_eq_true rfl) rfl (fun rv w9 hq => ?_)
    obtain ⟨rfl, rfl⟩ := hq
    refine z_ws [(a_t, .inr (1, [.ref a_t_signs, .int (zi c_t_length)])), (a_t_signs, zC J 120 f_t_signs)] rfl ?_
    refine z_iload_n (pc' := 15) 3 dX1_isDigit_14 rfl rfl rfl ?_
    have g7 := zkr_p hsh
    replace hsh := zkr_k hsh
    have g8 := zkr_p hsh
    replace hsh := zkr_k hsh
    refine z_icmp_gt (pc' := 18) (tgt := 22) dX1_isDigit_15 (by decide) g7 g8 rfl (fun q => ?_) (fun q => ?_)
    · replace hsh := zif_t q hsh
      refine z_iconst (pc' := 23) dX1_isDigit_22 rfl ?_
      cases hsh
      exact z_zret rfl (by decide) dX1_isDigit_23 ⟨rfl, rfl⟩
    · replace hsh := zif_f q hsh
      refine z_iconst (pc' := 19) dX1_isDigit_18 rfl ?_
      refine z_goto (tgt := 23) dX1_isDigit_19 (by decide) ?_
      cases hsh
      exact z_zret rfl (by decide) dX1_isDigit_23 ⟨rfl, rfl⟩
def sh_X1_findHeadError (F : Nat) (c_t_length : Int) (f_t_signs : Nat → Int) : Option (Int) := (sh_X1_sign F c_t_length f_t_signs (0 : Int)).bind (fun (q1 : Int) => zkr q1 (if q1 = (68 : Int) then (sh_X1_isDigit F c_t_length f_t_signs (1 : Int) (1 : Int) (4 : Int)).bind (fun (q4 : Int) => zkr q4 (if q4 = (0 : Int) then some ((1 : Int)) else (sh_X1_isDigit F c_t_length f_t_signs (2 : Int) (1 : Int) (4 : Int)).bind (fun (q7 : Int) => zkr q7 (if q7 = (0 : Int) then some ((2 : Int)) else (sh_X1_isDigit F c_t_length f_t_signs (3 : Int) (1 : Int) (9 : Int)).bind (fun (q10 : Int) => zkr q10 (if q10 = (0 : Int) then some ((3 : Int)) else some ((-9 : Int)))))))) else some ((0 : Int))))
set_option maxRecDepth 100000 in
set_option maxHeartbeats 4000000 in
theorem zc_X1_findHeadError (l : Launch) (D : va_G) (J : Nat → ClassId) (F : Nat) (a_t : Nat) (a_t_signs : Nat) (c_t_length : Int) (f_t_signs : Nat → Int) (res : Int) (hsh : sh_X1_findHeadError F c_t_length f_t_signs = some res) : ZM l D J yX1_findHeadError wsX1_findHeadError ({ frames := 3, cells := 0, slots := 0, locals := 65 } : Room) 0 0 [.ref a_t] [(a_t, .inr (1, [.ref a_t_signs, .int (zi c_t_length)])), (a_t_signs, zC J 120 f_t_signs)] (fun rv w9 => rv = some (.int (zi res)) ∧ w9 = [(a_t, .inr (1, [.ref a_t_signs, .int (zi c_t_length)])), (a_t_signs, zC J 120 f_t_signs)]) := by
  refine z_ofZ (cc := cX1_findHeadError) (maxL := 1) (ret := (some .int)) 0 0 (by decide) rfl (Nat.le_of_ble_eq_true rfl) [(0, .ref a_t)] rfl ?_
  intro p e s m args below meth c A
  unfold sh_X1_findHeadError at hsh
  refine z_aload_n (pc' := 1) 0 dX1_findHeadError_0 rfl rfl rfl ?_
  refine z_iconst (pc' := 2) dX1_findHeadError_1 rfl ?_
  obtain ⟨q1, h2, hsh⟩ := zbind hsh
  refine z_callV (pc' := 5) (C := RX1) (As := [.int (zi (0 : Int))]) (rest := []) (wr := []) 1 (zc_X1_sign l D J F (a_t := a_t) (a_t_signs := a_t_signs) (c_t_length := c_t_length) (f_t_signs := f_t_signs) (p0 := (0 : Int))  q1 h2) dX1_findHeadError_2 gX1_findHeadError_X1_sign rfl rfl rfl (by decide +kernel) ⟨Nat.le_of_ble_eq_true rfl, Nat.le_of_ble_eq_true rfl⟩ ⟨Nat.le_of_ble_eq_true rfl, Nat.le_of_ble_eq_true rfl⟩ (z_spl_of [0, 1] rfl rfl) rfl rfl rfl rfl (Nat.le_of_ble_eq_true rfl) rfl (fun rv w9 hq => ?_)
  obtain ⟨rfl, rfl⟩ := hq
  refine z_ws [(a_t, .inr (1, [.ref a_t_signs, .int (zi c_t_length)])), (a_t_signs, zC J 120 f_t_signs)] rfl ?_
  refine z_bipush (pc' := 7) dX1_findHeadError_5 (by decide) rfl ?_
  have g3 := zkr_p hsh
  replace hsh := zkr_k hsh
  refine z_icmp_eq (pc' := 10) (tgt := 12) dX1_findHeadError_7 (by decide) g3 (by decide) rfl (fun q => ?_) (fun q => ?_)
  · replace hsh := zif_t q hsh
    refine z_aload_n (pc' := 13) 0 dX1_findHeadError_12 rfl rfl rfl ?_
    refine z_iconst (pc' := 14) dX1_findHeadError_13 rfl ?_
    refine z_iconst (pc' := 15) dX1_findHeadError_14 rfl ?_
    refine z_iconst (pc' := 16) dX1_findHeadError_15 rfl ?_
    obtain ⟨q4, h5, hsh⟩ := zbind hsh
    refine z_callV (pc' := 19) (C := RX1) (As := [.int (zi (1 : Int)), .int (zi (1 : Int)), .int (zi (4 : Int))]) (rest := []) (wr := []) 3 (zc_X1_isDigit l D J F (a_t := a_t) (a_t_signs := a_t_signs) (c_t_length := c_t_length) (f_t_signs := f_t_signs) (p0 := (1 : Int)) (p1 := (1 : Int)) (p2 := (4 : Int))  q4 h5) dX1_findHeadError_16 gX1_findHeadError_X1_isDigit rfl rfl rfl (by decide +kernel) ⟨Nat.le_of_ble_eq_true rfl, Nat.le_of_ble_eq_true rfl⟩ ⟨Nat.le_of_ble_eq_true rfl, Nat.le_of_ble_eq_true rfl⟩ (z_spl_of [0, 1] rfl rfl) rfl rfl rfl rfl (Nat.le_of_ble_eq_true rfl) rfl (fun rv w9 hq => ?_)
    obtain ⟨rfl, rfl⟩ := hq
    refine z_ws [(a_t, .inr (1, [.ref a_t_signs, .int (zi c_t_length)])), (a_t_signs, zC J 120 f_t_signs)] rfl ?_
    have g6 := zkr_p hsh
    replace hsh := zkr_k hsh
    refine z_if_ne (pc' := 22) (tgt := 24) dX1_findHeadError_19 (by decide) g6 rfl (fun q => ?_) (fun q => ?_)
    · replace hsh := zif_f q hsh
      refine z_aload_n (pc' := 25) 0 dX1_findHeadError_24 rfl rfl rfl ?_
      refine z_iconst (pc' := 26) dX1_findHeadError_25 rfl ?_
      refine z_iconst (pc' := 27) dX1_findHeadError_26 rfl ?_
      refine z_iconst (pc' := 28) dX1_findHeadError_27 rfl ?_
      obtain ⟨q7, h8, hsh⟩ := zbind hsh
      refine z_callV (pc' := 31) (C := RX1) (As := [.int (zi (2 : Int)), .int (zi (1 : Int)), .int (zi (4 : Int))]) (rest := []) (wr := []) 3 (zc_X1_isDigit l D J F (a_t := a_t) (a_t_signs := a_t_signs) (c_t_length := c_t_length) (f_t_signs := f_t_signs) (p0 := (2 : Int)) (p1 := (1 : Int)) (p2 := (4 : Int))  q7 h8) dX1_findHeadError_28 gX1_findHeadError_X1_isDigit rfl rfl rfl (by decide +kernel) ⟨Nat.le_of_ble_eq_true rfl, Nat.le_of_ble_eq_true rfl⟩ ⟨Nat.le_of_ble_eq_true rfl, Nat.le_of_ble_eq_true rfl⟩ (z_spl_of [0, 1] rfl rfl) rfl rfl rfl rfl (Nat.le_of_ble_eq_true rfl) rfl (fun rv w9 hq => ?_)
      obtain ⟨rfl, rfl⟩ := hq
      refine z_ws [(a_t, .inr (1, [.ref a_t_signs, .int (zi c_t_length)])), (a_t_signs, zC J 120 f_t_signs)] rfl ?_
      have g9 := zkr_p hsh
      replace hsh := zkr_k hsh
      refine z_if_ne (pc' := 34) (tgt := 36) dX1_findHeadError_31 (by decide) g9 rfl (fun q => ?_) (fun q => ?_)
      · replace hsh := zif_f q hsh
        refine z_aload_n (pc' := 37) 0 dX1_findHeadError_36 rfl rfl rfl ?_
        refine z_iconst (pc' := 38) dX1_findHeadError_37 rfl ?_
        refine z_iconst (pc' := 39) dX1_findHeadError_38 rfl ?_
        refine z_bipush (pc' := 41) dX1_findHeadError_39 (by decide) rfl ?_
        obtain ⟨q10, h11, hsh⟩ := zbind hsh
        refine z_callV (pc' := 44) (C := RX1) (As := [.int (zi (3 : Int)), .int (zi (1 : Int)), .int (zi (9 : Int))]) (rest := []) (wr := []) 3 (zc_X1_isDigit l D J F (a_t := a_t) (a_t_signs := a_t_signs) (c_t_length := c_t_length) (f_t_signs := f_t_signs) (p0 := (3 : Int)) (p1 := (1 : Int)) (p2 := (9 : Int))  q10 h11) dX1_findHeadError_41 gX1_findHeadError_X1_isDigit rfl rfl rfl (by decide +kernel) ⟨Nat.le_of_ble_eq_true rfl, Nat.le_of_ble_eq_true rfl⟩ ⟨Nat.le_of_ble_eq_true rfl, Nat.le_of_ble_eq_true rfl⟩ (z_spl_of [0, 1] rfl rfl) rfl rfl rfl rfl (Nat.le_of_ble_eq_true rfl) rfl (fun rv w9 hq => ?_)
        obtain ⟨rfl, rfl⟩ := hq
        refine z_ws [(a_t, .inr (1, [.ref a_t_signs, .int (zi c_t_length)])), (a_t_signs, zC J 120 f_t_signs)] rfl ?_
        have g12 := zkr_p hsh
        replace hsh := zkr_k hsh
        refine z_if_eq (pc' := 47) (tgt := 52) dX1_findHeadError_44 (by decide) g12 rfl (fun q => ?_) (fun q => ?_)
        · replace hsh := zif_t q hsh
          refine z_iconst (pc' := 53) dX1_findHeadError_52 rfl ?_
          cases hsh
          exact z_iret rfl dX1_findHeadError_53 ⟨rfl, rfl⟩
        · replace hsh := zif_f q hsh
          refine z_bipush (pc' := 49) dX1_findHeadError_47 (by decide) rfl ?_
          refine z_goto (tgt := 53) dX1_findHeadError_49 (by decide) ?_
          cases hsh
          exact z_iret rfl dX1_findHeadError_53 ⟨rfl, rfl⟩
      · replace hsh := zif_t q hsh
        refine z_iconst (pc' := 35) dX1_findHeadError_34 rfl ?_
        cases hsh
        exact z_iret rfl dX1_findHeadError_35 ⟨rfl, rfl⟩
    · replace hsh := zif_t q hsh
      refine z_iconst (pc' := 23) dX1_findHeadError_22 rfl ?_
      cases hsh
      exact z_iret rfl dX1_findHeadError_23 ⟨rfl, rfl⟩
  · replace hsh := zif_f q hsh
    refine z_iconst (pc' := 11) dX1_findHeadError_10 rfl ?_
    cases hsh
    exact z_iret rfl dX1_findHeadError_11 ⟨rfl, rfl⟩
def sh_X1_columnEnd_L4 (F : Nat) (c_t_length : Int) (f_t_signs : Nat → Int) (k : Int → Int → Option (Int)) : Nat → Int → Int → Option (Int)
  | 0, _, _ => none
  | N + 1, v3, v4 => zkr v4 (if v4 < (6 : Int) then (sh_X1_sign F c_t_length f_t_signs v3).bind (fun (q6 : Int) => zkr q6 (if q6 = (59 : Int) then k v3 v4 else (sh_X1_isDigit F c_t_length f_t_signs v3 (1 : Int) (9 : Int)).bind (fun (q9 : Int) => zkr q9 (if q9 = (0 : Int) then some ((zxor v3 (-1 : Int))) else (sh_X1_isDigit F c_t_length f_t_signs (v3 + (1 : Int)) (0 : Int) (9 : Int)).bind (fun (q12 : Int) => zkr q12 (if q12 = (0 : Int) then some ((zxor (v3 + (1 : Int)) (-1 : Int))) else sh_X1_columnEnd_L4 F c_t_length f_t_signs k N (v3 + (2 : Int)) (v4 + (1 : Int)))))))) else k v3 v4)
def sh_X1_columnEnd (F : Nat) (c_t_length : Int) (f_t_signs : Nat → Int) (p0 : Int) : Option (Int) := sh_X1_columnEnd_L4 F c_t_length f_t_signs (fun (v15 : Int) (v16 : Int) => (sh_X1_sign F c_t_length f_t_signs v15).bind (fun (q17 : Int) => zkr q17 (if q17 = (59 : Int) then some ((v15 + (1 : Int))) else some ((zxor v15 (-1 : Int)))))) F p0 (0 : Int)
set_option maxRecDepth 100000 in
set_option maxHeartbeats 4000000 in
theorem zl_X1_columnEnd_L4 {p : Program} {l : Launch} {e : Env} {s : State} {m : MethodId} {args : Array Value} {below : List Frame} {meth : Method} {c : Code} {A : Nat → Prop} {D : va_G} {J : Nat → ClassId} {F : Nat} {c_t_length : Int} {f_t_signs : Nat → Int} {a_t : Nat} {a_t_signs : Nat} {res : Int} {k : Int → Int → Option (Int)} (hk : ∀ (v3' : Int) (v4' : Int), k v3' v4' = some res → Z p l e ({ frames := 3, cells := 0, slots := 0, locals := 65 } : Room) s m args below meth c (MQ below (zQ D J A (fun rv w9 => rv = some (.int (zi res)) ∧ w9 = [(a_t, .inr (1, [.ref a_t_signs, .int (zi c_t_length)])), (a_t_signs, zC J 120 f_t_signs)])) args s 0 0 A) cX1_columnEnd 4 wsX1_columnEnd RX1 D J A (some .int) (yX1_columnEnd.name, []) 0 0 [(a_t, .inr (1, [.ref a_t_signs, .int (zi c_t_length)])), (a_t_signs, zC J 120 f_t_signs)] [(0, .ref a_t), (2, .int (zi v3'))] 63 []) : ∀ (N : Nat) (v3 : Int) (v4 : Int), sh_X1_columnEnd_L4 F c_t_length f_t_signs k N v3 v4 = some res → Z p l e ({ frames := 3, cells := 0, slots := 0, locals := 65 } : Room) s m args below meth c (MQ below (zQ D J A (fun rv w9 => rv = some (.int (zi res)) ∧ w9 = [(a_t, .inr (1, [.ref a_t_signs, .int (zi c_t_length)])), (a_t_signs, zC J 120 f_t_signs)])) args s 0 0 A) cX1_columnEnd 4 wsX1_columnEnd RX1 D J A (some .int) (yX1_columnEnd.name, []) 0 0 [(a_t, .inr (1, [.ref a_t_signs, .int (zi c_t_length)])), (a_t_signs, zC J 120 f_t_signs)] [(0, .ref a_t), (2, .int (zi v3)), (3, .int (zi v4))] 4 [] := by
  intro N
  induction N with
  | zero =>
    intro v3 v4 hsh
    exact absurd hsh (by simp [sh_X1_columnEnd_L4])
  | succ N ih =>
    intro v3 v4 hsh
    rw [sh_X1_columnEnd_L4] at hsh
    refine z_iload_n (pc' := 5) 2 dX1_columnEnd_4 rfl rfl rfl ?_
    refine z_bipush (pc' := 7) dX1_columnEnd_5 (by decide) rfl ?_
    have g5 := zkr_p hsh
    replace hsh := zkr_k hsh
    refine z_icmp_ge (pc' := 10) (tgt := 63) dX1_columnEnd_7 (by decide) g5 (by decide) rfl (fun q => ?_) (fun q => ?_)
    · replace hsh := zif_f q hsh
      refine z_perm [(a_t, .inr (1, [.ref a_t_signs, .int (zi c_t_length)])), (a_t_signs, zC J 120 f_t_signs)] [(0, .ref a_t), (2, .int (zi v3))] [0, 1] [0, 1] rfl rfl rfl ?_
      exact hk _ _ hsh
    · replace hsh := zif_t q hsh
      refine z_aload_n (pc' := 11) 0 dX1_columnEnd_10 rfl rfl rfl ?_
      refine z_iload_n (pc' := 12) 1 dX1_columnEnd_11 rfl rfl rfl ?_
      obtain ⟨q6, h7, hsh⟩ := zbind hsh
      refine z_callV (pc' := 15) (C := RX1) (As := [.int (zi v3)]) (rest := []) (wr := []) 1 (zc_X1_sign l D J F (a_t := a_t) (a_t_signs := a_t_signs) (c_t_length := c_t_length) (f_t_signs := f_t_signs) (p0 := v3)  q6 h7) dX1_columnEnd_12 gX1_columnEnd_X1_sign rfl rfl rfl (by decide +kernel) ⟨Nat.le_of_ble_eq_true rfl, Nat.le_of_ble_eq_true rfl⟩ ⟨Nat.le_of_ble_eq_true rfl, Nat.le_of_ble_eq_true rfl⟩ (z_spl_of [0, 1] rfl rfl) rfl rfl rfl rfl (Nat.le_of_ble_eq_true rfl) rfl (fun rv w9 hq => ?_)
      obtain ⟨rfl, rfl⟩ := hq
      refine z_ws [(a_t, .inr (1, [.ref a_t_signs, .int (zi c_t_length)])), (a_t_signs, zC J 120 f_t_signs)] rfl ?_
      refine z_bipush (pc' := 17) dX1_columnEnd_15 (by decide) rfl ?_
      have g8 := zkr_p hsh
      replace hsh := zkr_k hsh
      refine z_icmp_eq (pc' := 20) (tgt := 63) dX1_columnEnd_17 (by decide) g8 (by decide) rfl (fun q => ?_) (fun q => ?_)
      · replace hsh := zif_t q hsh
        refine z_perm [(a_t, .inr (1, [.ref a_t_signs, .int (zi c_t_length)])), (a_t_signs, zC J 120 f_t_signs)] [(0, .ref a_t), (2, .int (zi v3))] [0, 1] [0, 1] rfl rfl rfl ?_
        exact hk _ _ hsh
      · replace hsh := zif_f q hsh
        refine z_aload_n (pc' := 21) 0 dX1_columnEnd_20 rfl rfl rfl ?_
        refine z_iload_n (pc' := 22) 1 dX1_columnEnd_21 rfl rfl rfl ?_
        refine z_iconst (pc' := 23) dX1_columnEnd_22 rfl ?_
        refine z_bipush (pc' := 25) dX1_columnEnd_23 (by decide) rfl ?_
        obtain ⟨q9, h10, hsh⟩ := zbind hsh
        refine z_callV (pc' := 28) (C := RX1) (As := [.int (zi v3), .int (zi (1 : Int)), .int (zi (9 : Int))]) (rest := []) (wr := []) 3 (zc_X1_isDigit l D J F (a_t := a_t) (a_t_signs := a_t_signs) (c_t_length := c_t_length) (f_t_signs := f_t_signs) (p0 := v3) (p1 := (1 : Int)) (p2 := (9 : Int))  q9 h10) dX1_columnEnd_25 gX1_columnEnd_X1_isDigit rfl rfl rfl (by decide +kernel) ⟨Nat.le_of_ble_eq_true rfl, Nat.le_of_ble_eq_true rfl⟩ ⟨Nat.le_of_ble_eq_true rfl, Nat.le_of_ble_eq_true rfl⟩ (z_spl_of [0, 1] rfl rfl) rfl rfl rfl rfl (Nat.le_of_ble_eq_true rfl) rfl (fun rv w9 hq => ?_)
        obtain ⟨rfl, rfl⟩ := hq
        refine z_ws [(a_t, .inr (1, [.ref a_t_signs, .int (zi c_t_length)])), (a_t_signs, zC J 120 f_t_signs)] rfl ?_
        have g11 := zkr_p hsh
        replace hsh := zkr_k hsh
        refine z_if_ne (pc' := 31) (tgt := 35) dX1_columnEnd_28 (by decide) g11 rfl (fun q => ?_) (fun q => ?_)
        · replace hsh := zif_f q hsh
          refine z_aload_n (pc' := 36) 0 dX1_columnEnd_35 rfl rfl rfl ?_
          refine z_iload_n (pc' := 37) 1 dX1_columnEnd_36 rfl rfl rfl ?_
          refine z_iconst (pc' := 38) dX1_columnEnd_37 rfl ?_
          refine z_iadd (pc' := 39) dX1_columnEnd_38 rfl ?_
          refine z_iconst (pc' := 40) dX1_columnEnd_39 rfl ?_
          refine z_bipush (pc' := 42) dX1_columnEnd_40 (by decide) rfl ?_
          obtain ⟨q12, h13, hsh⟩ := zbind hsh
          refine z_callV (pc' := 45) (C := RX1) (As := [.int (zi (v3 + (1 : Int))), .int (zi (0 : Int)), .int (zi (9 : Int))]) (rest := []) (wr := []) 3 (zc_X1_isDigit l D J F (a_t := a_t) (a_t_signs := a_t_signs) (c_t_length := c_t_length) (f_t_signs := f_t_signs) (p0 := (v3 + (1 : Int))) (p1 := (0 : Int)) (p2 := (9 : Int))  q12 h13) dX1_columnEnd_42 gX1_columnEnd_X1_isDigit rfl rfl rfl (by decide +kernel) ⟨Nat.le_of_ble_eq_true rfl, Nat.le_of_ble_eq_true rfl⟩ ⟨Nat.le_of_ble_eq_true rfl, Nat.le_of_ble_eq_true rfl⟩ (z_spl_of [0, 1] rfl rfl) rfl rfl rfl rfl (Nat.le_of_ble_eq_true rfl) rfl (fun rv w9 hq => ?_)
          obtain ⟨rfl, rfl⟩ := hq
          refine z_ws [(a_t, .inr (1, [.ref a_t_signs, .int (zi c_t_length)])), (a_t_signs, zC J 120 f_t_signs)] rfl ?_
          have g14 := zkr_p hsh
          replace hsh := zkr_k hsh
          refine z_if_ne (pc' := 48) (tgt := 54) dX1_columnEnd_45 (by decide) g14 rfl (fun q => ?_) (fun q => ?_)
          · replace hsh := zif_f q hsh
            refine z_iinc (pc' := 57) [(2, .int (zi (v3 + (2 : Int)))), (0, .ref a_t), (3, .int (zi v4))] 1 dX1_columnEnd_54 rfl (by decide) rfl rfl ?_
            refine z_iinc (pc' := 60) [(3, .int (zi (v4 + (1 : Int)))), (2, .int (zi (v3 + (2 : Int)))), (0, .ref a_t)] 2 dX1_columnEnd_57 rfl (by decide) rfl rfl ?_
            refine z_goto (tgt := 4) dX1_columnEnd_60 (by decide) ?_
            refine z_perm [(a_t, .inr (1, [.ref a_t_signs, .int (zi c_t_length)])), (a_t_signs, zC J 120 f_t_signs)] [(0, .ref a_t), (2, .int (zi (v3 + (2 : Int)))), (3, .int (zi (v4 + (1 : Int))))] [0, 1] [2, 1, 0] rfl rfl rfl ?_
            exact ih _ _ hsh
          · replace hsh := zif_t q hsh
            refine z_iload_n (pc' := 49) 1 dX1_columnEnd_48 rfl rfl rfl ?_
            refine z_iconst (pc' := 50) dX1_columnEnd_49 rfl ?_
            refine z_iadd (pc' := 51) dX1_columnEnd_50 rfl ?_
            refine z_iconst (pc' := 52) dX1_columnEnd_51 rfl ?_
            refine z_ixor (pc' := 53) dX1_columnEnd_52 rfl ?_
            cases hsh
            exact z_iret rfl dX1_columnEnd_53 ⟨rfl, rfl⟩
        · replace hsh := zif_t q hsh
          refine z_iload_n (pc' := 32) 1 dX1_columnEnd_31 rfl rfl rfl ?_
          refine z_iconst (pc' := 33) dX1_columnEnd_32 rfl ?_
          refine z_ixor (pc' := 34) dX1_columnEnd_33 rfl ?_
          cases hsh
          exact z_iret rfl dX1_columnEnd_34 ⟨rfl, rfl⟩
set_option maxRecDepth 100000 in
set_option maxHeartbeats 4000000 in
theorem zc_X1_columnEnd (l : Launch) (D : va_G) (J : Nat → ClassId) (F : Nat) (a_t : Nat) (a_t_signs : Nat) (c_t_length : Int) (f_t_signs : Nat → Int) (p0 : Int) (res : Int) (hsh : sh_X1_columnEnd F c_t_length f_t_signs p0 = some res) : ZM l D J yX1_columnEnd wsX1_columnEnd ({ frames := 3, cells := 0, slots := 0, locals := 65 } : Room) 0 0 [.ref a_t, .int (zi p0)] [(a_t, .inr (1, [.ref a_t_signs, .int (zi c_t_length)])), (a_t_signs, zC J 120 f_t_signs)] (fun rv w9 => rv = some (.int (zi res)) ∧ w9 = [(a_t, .inr (1, [.ref a_t_signs, .int (zi c_t_length)])), (a_t_signs, zC J 120 f_t_signs)]) := by
  refine z_ofZ (cc := cX1_columnEnd) (maxL := 4) (ret := (some .int)) 0 0 (by decide) rfl (Nat.le_of_ble_eq_true rfl) [(0, .ref a_t), (1, .int (zi p0))] rfl ?_
  intro p e s m args below meth c A
  unfold sh_X1_columnEnd at hsh
  refine z_iload_n (pc' := 1) 1 dX1_columnEnd_0 rfl rfl rfl ?_
  refine z_istore_n (pc' := 2) [(2, .int (zi p0)), (0, .ref a_t), (1, .int (zi p0))] dX1_columnEnd_1 rfl (by decide) rfl rfl ?_
  refine z_iconst (pc' := 3) dX1_columnEnd_2 rfl ?_
  refine z_istore_n (pc' := 4) [(3, .int (zi (0 : Int))), (2, .int (zi p0)), (0, .ref a_t), (1, .int (zi p0))] dX1_columnEnd_3 rfl (by decide) rfl rfl ?_
  refine z_perm [(a_t, .inr (1, [.ref a_t_signs, .int (zi c_t_length)])), (a_t_signs, zC J 120 f_t_signs)] [(0, .ref a_t), (2, .int (zi p0)), (3, .int (zi (0 : Int)))] [0, 1] [2, 1, 0] rfl rfl rfl ?_
  refine zl_X1_columnEnd_L4 (F := F) (hk := fun v15 v16 hsh => ?_) _ _ _ hsh
  refine z_aload_n (pc' := 64) 0 dX1_columnEnd_63 rfl rfl rfl ?_
  refine z_iload_n (pc' := 65) 1 dX1_columnEnd_64 rfl rfl rfl ?_
  obtain ⟨q17, h18, hsh⟩ := zbind hsh
  refine z_callV (pc' := 68) (C := RX1) (As := [.int (zi v15)]) (rest := []) (wr := []) 1 (zc_X1_sign l D J F (a_t := a_t) (a_t_signs := a_t_signs) (c_t_length := c_t_length) (f_t_signs := f_t_signs) (p0 := v15)  q17 h18) dX1_columnEnd_65 gX1_columnEnd_X1_sign rfl rfl rfl (by decide +kernel) ⟨Nat.le_of_ble_eq_true rfl, Nat.le_of_ble_eq_true rfl⟩ ⟨Nat.le_of_ble_eq_true rfl, Nat.le_of_ble_eq_true rfl⟩ (z_spl_of [0, 1] rfl rfl) rfl rfl rfl rfl (Nat.le_of_ble_eq_true rfl) rfl (fun rv w9 hq => ?_)
  obtain ⟨rfl, rfl⟩ := hq
  refine z_ws [(a_t, .inr (1, [.ref a_t_signs, .int (zi c_t_length)])), (a_t_signs, zC J 120 f_t_signs)] rfl ?_
  refine z_bipush (pc' := 70) dX1_columnEnd_68 (by decide) rfl ?_
  have g19 := zkr_p hsh
  replace hsh := zkr_k hsh
  refine z_icmp_ne (pc' := 73) (tgt := 79) dX1_columnEnd_70 (by decide) g19 (by decide) rfl (fun q => ?_) (fun q => ?_)
  · replace hsh := zif_f q hsh
    refine z_iload_n (pc' := 80) 1 dX1_columnEnd_79 rfl rfl rfl ?_
    refine z_iconst (pc' := 81) dX1_columnEnd_80 rfl ?_
    refine z_ixor (pc' := 82) dX1_columnEnd_81 rfl ?_
    cases hsh
    exact z_iret rfl dX1_columnEnd_82 ⟨rfl, rfl⟩
  · replace hsh := zif_t q hsh
    refine z_iload_n (pc' := 74) 1 dX1_columnEnd_73 rfl rfl rfl ?_
    refine z_iconst (pc' := 75) dX1_columnEnd_74 rfl ?_
    refine z_iadd (pc' := 76) dX1_columnEnd_75 rfl ?_
    refine z_goto (tgt := 82) dX1_columnEnd_76 (by decide) ?_
    cases hsh
    exact z_iret rfl dX1_columnEnd_82 ⟨rfl, rfl⟩
def sh_X1_findError_L30 (F : Nat) (c_t_length : Int) (f_t_signs : Nat → Int) (q4 : Int) (q6 : Int) (k : Int → Int → Option (Int)) : Nat → Int → Int → Option (Int)
  | 0, _, _ => none
  | N + 1, v10, v11 => zkr v11 (zkr (q4 * q6) (if v11 < (q4 * q6) then (sh_X1_columnEnd F c_t_length f_t_signs v10).bind (fun (q14 : Int) => zkr q14 (if q14 < (0 : Int) then some ((zxor q14 (-1 : Int))) else sh_X1_findError_L30 F c_t_length f_t_signs q4 q6 k N q14 (v11 + (1 : Int)))) else k v10 v11))
def sh_X1_findError (F : Nat) (c_t_length : Int) (f_t_signs : Nat → Int) : Option (Int) := (sh_X1_findHeadError F c_t_length f_t_signs).bind (fun (q1 : Int) => zkr q1 (if q1 = (-9 : Int) then (sh_X1_digit F c_t_length f_t_signs (1 : Int)).bind (fun (q4 : Int) => (sh_X1_digit F c_t_length f_t_signs (2 : Int)).bind (fun (q6 : Int) => sh_X1_findError_L30 F c_t_length f_t_signs q4 q6 (fun (v17 : Int) (v18 : Int) => zkr v17 (zkr c_t_length (if v17 < c_t_length then some (v17) else some ((-9 : Int))))) F (4 : Int) (0 : Int))) else some (q1)))
theorem mX1_findError_f15 : Cond.fieldLink RX1 15 (TX1 1).1 (TX1 1).2.1 (TX1 1).2.2.1 ∈ wsX1_findError := List.mem_of_getElem? (i := 1) rfl
theorem iX1_findError_X1 : ∀ w ∈ wsX10, w ∈ wsX1_findError := fun _ h => (List.mem_cons_of_mem _ (List.mem_append_right _ h))
set_option maxRecDepth 100000 in
set_option maxHeartbeats 4000000 in
theorem zl_X1_findError_L30 {p : Program} {l : Launch} {e : Env} {s : State} {m : MethodId} {args : Array Value} {below : List Frame} {meth : Method} {c : Code} {A : Nat → Prop} {D : va_G} {J : Nat → ClassId} {F : Nat} {c_t_length : Int} {f_t_signs : Nat → Int} {q4 : Int} {q6 : Int} {a_t : Nat} {a_t_signs : Nat} {res : Int} {k : Int → Int → Option (Int)} (hk : ∀ (v10' : Int) (v11' : Int), k v10' v11' = some res → Z p l e ({ frames := 4, cells := 0, slots := 0, locals := 88 } : Room) s m args below meth c (MQ below (zQ D J A (fun rv w9 => rv = some (.int (zi res)) ∧ w9 = [(a_t, .inr (1, [.ref a_t_signs, .int (zi c_t_length)])), (a_t_signs, zC J 120 f_t_signs)])) args s 0 0 A) cX1_findError 5 wsX1_findError RX1 D J A (some .int) (yX1_findError.name, []) 0 0 [(a_t, .inr (1, [.ref a_t_signs, .int (zi c_t_length)])), (a_t_signs, zC J 120 f_t_signs)] [(0, .ref a_t), (3, .int (zi v10'))] 56 []) : ∀ (N : Nat) (v10 : Int) (v11 : Int), sh_X1_findError_L30 F c_t_length f_t_signs q4 q6 k N v10 v11 = some res → Z p l e ({ frames := 4, cells := 0, slots := 0, locals := 88 } : Room) s m args below meth c (MQ below (zQ D J A (fun rv w9 => rv = some (.int (zi res)) ∧ w9 = [(a_t, .inr (1, [.ref a_t_signs, .int (zi c_t_length)])), (a_t_signs, zC J 120 f_t_signs)])) args s 0 0 A) cX1_findError 5 wsX1_findError RX1 D J A (some .int) (yX1_findError.name, []) 0 0 [(a_t, .inr (1, [.ref a_t_signs, .int (zi c_t_length)])), (a_t_signs, zC J 120 f_t_signs)] [(0, .ref a_t), (2, .int (zi (q4 * q6))), (3, .int (zi v10)), (4, .int (zi v11))] 30 [] := by
  intro N
  induction N with
  | zero =>
    intro v10 v11 hsh
    exact absurd hsh (by simp [sh_X1_findError_L30])
  | succ N ih =>
    intro v10 v11 hsh
    rw [sh_X1_findError_L30] at hsh
    refine z_iload (pc' := 32) 3 dX1_findError_30 rfl rfl ?_
    refine z_iload_n (pc' := 33) 1 dX1_findError_32 rfl rfl rfl ?_
    have g12 := zkr_p hsh
    replace hsh := zkr_k hsh
    have g13 := zkr_p hsh
    replace hsh := zkr_k hsh
    refine z_icmp_ge (pc' := 36) (tgt := 56) dX1_findError_33 (by decide) g12 g13 rfl (fun q => ?_) (fun q => ?_)
    · replace hsh := zif_f q hsh
      refine z_perm [(a_t, .inr (1, [.ref a_t_signs, .int (zi c_t_length)])), (a_t_signs, zC J 120 f_t_signs)] [(0, .ref a_t), (3, .int (zi v10))] [0, 1] [0, 2] rfl rfl rfl ?_
      exact hk _ _ hsh
    · replace hsh := zif_t q hsh
      refine z_aload_n (pc' := 37) 0 dX1_findError_36 rfl rfl rfl ?_
      refine z_iload_n (pc' := 38) 2 dX1_findError_37 rfl rfl rfl ?_
      obtain ⟨q14, h15, hsh⟩ := zbind hsh
      refine z_callV (pc' := 41) (C := RX1) (As := [.int (zi v10)]) (rest := []) (wr := []) 1 (zc_X1_columnEnd l D J F (a_t := a_t) (a_t_signs := a_t_signs) (c_t_length := c_t_length) (f_t_signs := f_t_signs) (p0 := v10)  q14 h15) dX1_findError_38 gX1_findError_X1_columnEnd rfl rfl rfl (by decide +kernel) ⟨Nat.le_of_ble_eq_true rfl, Nat.le_of_ble_eq_true rfl⟩ ⟨Nat.le_of_ble_eq_true rfl, Nat.le_of_ble_eq_true rfl⟩ (z_spl_of [0, 1] rfl rfl) rfl rfl rfl rfl (Nat.le_of_ble_eq_true rfl) rfl (fun rv w9 hq => ?_)
      obtain ⟨rfl, rfl⟩ := hq
      refine z_ws [(a_t, .inr (1, [.ref a_t_signs, .int (zi c_t_length)])), (a_t_signs, zC J 120 f_t_signs)] rfl ?_
      refine z_istore_n (pc' := 42) [(3, .int (zi q14)), (0, .ref a_t), (2, .int (zi (q4 * q6))), (4, .int (zi v11))] dX1_findError_41 rfl (by decide) rfl rfl ?_
      refine z_iload_n (pc' := 43) 0 dX1_findError_42 rfl rfl rfl ?_
      have g16 := zkr_p hsh
      replace hsh := zkr_k hsh
      refine z_if_ge (pc' := 46) (tgt := 50) dX1_findError_43 (by decide) g16 rfl (fun q => ?_) (fun q => ?_)
      · replace hsh := zif_f q hsh
        refine z_iinc (pc' := 53) [(4, .int (zi (v11 + (1 : Int)))), (3, .int (zi q14)), (0, .ref a_t), (2, .int (zi (q4 * q6)))] 3 dX1_findError_50 rfl (by decide) rfl rfl ?_
        refine z_goto (tgt := 30) dX1_findError_53 (by decide) ?_
        refine z_perm [(a_t, .inr (1, [.ref a_t_signs, .int (zi c_t_length)])), (a_t_signs, zC J 120 f_t_signs)] [(0, .ref a_t), (2, .int (zi (q4 * q6))), (3, .int (zi q14)), (4, .int (zi (v11 + (1 : Int))))] [0, 1] [2, 3, 1, 0] rfl rfl rfl ?_
        exact ih _ _ hsh
      · replace hsh := zif_t q hsh
        refine z_iload_n (pc' := 47) 0 dX1_findError_46 rfl rfl rfl ?_
        refine z_iconst (pc' := 48) dX1_findError_47 rfl ?_
        refine z_ixor (pc' := 49) dX1_findError_48 rfl ?_
        cases hsh
        exact z_iret rfl dX1_findError_49 ⟨rfl, rfl⟩
set_option maxRecDepth 100000 in
set_option maxHeartbeats 4000000 in
theorem zc_X1_findError (l : Launch) (D : va_G) (J : Nat → ClassId) (F : Nat) (a_t : Nat) (a_t_signs : Nat) (c_t_length : Int) (f_t_signs : Nat → Int) (res : Int) (hsh : sh_X1_findError F c_t_length f_t_signs = some res) : ZM l D J yX1_findError wsX1_findError ({ frames := 4, cells := 0, slots := 0, locals := 88 } : Room) 0 0 [.ref a_t] [(a_t, .inr (1, [.ref a_t_signs, .int (zi c_t_length)])), (a_t_signs, zC J 120 f_t_signs)] (fun rv w9 => rv = some (.int (zi res)) ∧ w9 = [(a_t, .inr (1, [.ref a_t_signs, .int (zi c_t_length)])), (a_t_signs, zC J 120 f_t_signs)]) := by
  refine z_ofZ (cc := cX1_findError) (maxL := 5) (ret := (some .int)) 0 0 (by decide) rfl (Nat.le_of_ble_eq_true rfl) [(0, .ref a_t)] rfl ?_
  intro p e s m args below meth c A
  unfold sh_X1_findError at hsh
  refine z_aload_n (pc' := 1) 0 dX1_findError_0 rfl rfl rfl ?_
  obtain ⟨q1, h2, hsh⟩ := zbind hsh
  refine z_callV (pc' := 4) (C := RX1) (As := []) (rest := []) (wr := []) 0 (zc_X1_findHeadError l D J F (a_t := a_t) (a_t_signs := a_t_signs) (c_t_length := c_t_length) (f_t_signs := f_t_signs)  q1 h2) dX1_findError_1 gX1_findError_X1_findHeadError rfl rfl rfl (by decide +kernel) ⟨Nat.le_of_ble_eq_true rfl, Nat.le_of_ble_eq_true rfl⟩ ⟨Nat.le_of_ble_eq_true rfl, Nat.le_of_ble_eq_true rfl⟩ (z_spl_of [0, 1] rfl rfl) rfl rfl rfl rfl (Nat.le_of_ble_eq_true rfl) rfl (fun rv w9 hq => ?_)
  obtain ⟨rfl, rfl⟩ := hq
  refine z_ws [(a_t, .inr (1, [.ref a_t_signs, .int (zi c_t_length)])), (a_t_signs, zC J 120 f_t_signs)] rfl ?_
  refine z_istore_n (pc' := 5) [(1, .int (zi q1)), (0, .ref a_t)] dX1_findError_4 rfl (by decide) rfl rfl ?_
  refine z_iload_n (pc' := 6) 0 dX1_findError_5 rfl rfl rfl ?_
  refine z_bipush (pc' := 8) dX1_findError_6 (by decide) rfl ?_
  have g3 := zkr_p hsh
  replace hsh := zkr_k hsh
  refine z_icmp_eq (pc' := 11) (tgt := 13) dX1_findError_8 (by decide) g3 (by decide) rfl (fun q => ?_) (fun q => ?_)
  · replace hsh := zif_t q hsh
    refine z_aload_n (pc' := 14) 1 dX1_findError_13 rfl rfl rfl ?_
    refine z_iconst (pc' := 15) dX1_findError_14 rfl ?_
    obtain ⟨q4, h5, hsh⟩ := zbind hsh
    refine z_callV (pc' := 18) (C := RX1) (As := [.int (zi (1 : Int))]) (rest := []) (wr := []) 1 (zc_X1_digit l D J F (a_t := a_t) (a_t_signs := a_t_signs) (c_t_length := c_t_length) (f_t_signs := f_t_signs) (p0 := (1 : Int))  q4 h5) dX1_findError_15 gX1_findError_X1_digit rfl rfl rfl (by decide +kernel) ⟨Nat.le_of_ble_eq_true rfl, Nat.le_of_ble_eq_true rfl⟩ ⟨Nat.le_of_ble_eq_true rfl, Nat.le_of_ble_eq_true rfl⟩ (z_spl_of [0, 1] rfl rfl) rfl rfl rfl rfl (Nat.le_of_ble_eq_true rfl) rfl (fun rv w9 hq => ?_)
    obtain ⟨rfl, rfl⟩ := hq
    refine z_ws [(a_t, .inr (1, [.ref a_t_signs, .int (zi c_t_length)])), (a_t_signs, zC J 120 f_t_signs)] rfl ?_
    refine z_aload_n (pc' := 19) 1 dX1_findError_18 rfl rfl rfl ?_
    refine z_iconst (pc' := 20) dX1_findError_19 rfl ?_
    obtain ⟨q6, h7, hsh⟩ := zbind hsh
    refine z_callV (pc' := 23) (C := RX1) (As := [.int (zi (2 : Int))]) (rest := [.int (zi q4)]) (wr := []) 1 (zc_X1_digit l D J F (a_t := a_t) (a_t_signs := a_t_signs) (c_t_length := c_t_length) (f_t_signs := f_t_signs) (p0 := (2 : Int))  q6 h7) dX1_findError_20 gX1_findError_X1_digit rfl rfl rfl (by decide +kernel) ⟨Nat.le_of_ble_eq_true rfl, Nat.le_of_ble_eq_true rfl⟩ ⟨Nat.le_of_ble_eq_true rfl, Nat.le_of_ble_eq_true rfl⟩ (z_spl_of [0, 1] rfl rfl) rfl rfl rfl rfl (Nat.le_of_ble_eq_true rfl) rfl (fun rv w9 hq => ?_)
    obtain ⟨rfl, rfl⟩ := hq
    refine z_ws [(a_t, .inr (1, [.ref a_t_signs, .int (zi c_t_length)])), (a_t_signs, zC J 120 f_t_signs)] rfl ?_
    refine z_imul (pc' := 24) dX1_findError_23 rfl ?_
    refine z_istore_n (pc' := 25) [(2, .int (zi (q4 * q6))), (1, .int (zi q1)), (0, .ref a_t)] dX1_findError_24 rfl (by decide) rfl rfl ?_
    refine z_iconst (pc' := 26) dX1_findError_25 rfl ?_
    refine z_istore_n (pc' := 27) [(3, .int (zi (4 : Int))), (2, .int (zi (q4 * q6))), (1, .int (zi q1)), (0, .ref a_t)] dX1_findError_26 rfl (by decide) rfl rfl ?_
    refine z_iconst (pc' := 28) dX1_findError_27 rfl ?_
    refine z_istore (pc' := 30) [(4, .int (zi (0 : Int))), (3, .int (zi (4 : Int))), (2, .int (zi (q4 * q6))), (1, .int (zi q1)), (0, .ref a_t)] dX1_findError_28 (by decide) rfl rfl ?_
    refine z_perm [(a_t, .inr (1, [.ref a_t_signs, .int (zi c_t_length)])), (a_t_signs, zC J 120 f_t_signs)] [(0, .ref a_t), (2, .int (zi (q4 * q6))), (3, .int (zi (4 : Int))), (4, .int (zi (0 : Int)))] [0, 1] [4, 2, 1, 0] rfl rfl rfl ?_
    refine zl_X1_findError_L30 (F := F) (hk := fun v17 v18 hsh => ?_) _ _ _ hsh
    refine z_iload_n (pc' := 57) 1 dX1_findError_56 rfl rfl rfl ?_
    refine z_aload_n (pc' := 58) 0 dX1_findError_57 rfl rfl rfl ?_
    refine z_getfield (pc' := 61) (C := RX1) (T := TX1) (N := 2) 0 1 dX1_findError_58 iX1_findError_X1 rfl rfl (by decide) mX1_findError_f15 rfl rfl ?_
    have g19 := zkr_p hsh
    replace hsh := zkr_k hsh
    have g20 := zkr_p hsh
    replace hsh := zkr_k hsh
    refine z_icmp_ge (pc' := 64) (tgt := 68) dX1_findError_61 (by decide) g19 g20 rfl (fun q => ?_) (fun q => ?_)
    · replace hsh := zif_f q hsh
      refine z_bipush (pc' := 70) dX1_findError_68 (by decide) rfl ?_
      cases hsh
      exact z_iret rfl dX1_findError_70 ⟨rfl, rfl⟩
    · replace hsh := zif_t q hsh
      refine z_iload_n (pc' := 65) 1 dX1_findError_64 rfl rfl rfl ?_
      refine z_goto (tgt := 70) dX1_findError_65 (by decide) ?_
      cases hsh
      exact z_iret rfl dX1_findError_70 ⟨rfl, rfl⟩
  · replace hsh := zif_f q hsh
    refine z_iload_n (pc' := 12) 0 dX1_findError_11 rfl rfl rfl ?_
    cases hsh
    exact z_iret rfl dX1_findError_12 ⟨rfl, rfl⟩
def sh_X1_buildColumn_L6 (F : Nat) (p1 : Int) (c_t_length : Int) (f_t_signs : Nat → Int) (k : Int → Int → (Nat → Int) → (Nat → Int) → (Nat → Int) → Option (Int × (Nat → Int) × (Nat → Int) × (Nat → Int))) : Nat → Int → Int → (Nat → Int) → (Nat → Int) → (Nat → Int) → Option (Int × (Nat → Int) × (Nat → Int) × (Nat → Int))
  | 0, _, _, _, _, _ => none
  | N + 1, v8, v9, v10, v11, v12 => zkr v9 (if v9 < (6 : Int) then (sh_X1_sign F c_t_length f_t_signs v8).bind (fun (q14 : Int) => zkr q14 (if q14 = (59 : Int) then k v8 v9 v10 v11 v12 else (sh_X1_digit F c_t_length f_t_signs v8).bind (fun (q17 : Int) => (sh_X1_digit F c_t_length f_t_signs (v8 + (1 : Int))).bind (fun (q19 : Int) => (sh_X0_pile F v10 v11 v12 p1 q17 q19).bind (fun (q21 : (Nat → Int) × (Nat → Int) × (Nat → Int)) => sh_X1_buildColumn_L6 F p1 c_t_length f_t_signs k N (v8 + (2 : Int)) (v9 + (1 : Int)) q21.1 q21.2.1 q21.2.2))))) else k v8 v9 v10 v11 v12)
def sh_X1_buildColumn (F : Nat) (c_t_length : Int) (f_t_signs : Nat → Int) (f_p0_buckets : Nat → Int) (f_p0_grades : Nat → Int) (f_p0_heights : Nat → Int) (p1 : Int) (p2 : Int) : Option (Int × (Nat → Int) × (Nat → Int) × (Nat → Int)) := sh_X1_buildColumn_L6 F p1 c_t_length f_t_signs (fun (v23 : Int) (v24 : Int) (v25 : (Nat → Int)) (v26 : (Nat → Int)) (v27 : (Nat → Int)) => some ((v23 + (1 : Int)), v25, v26, v27)) F p2 (0 : Int) f_p0_buckets f_p0_grades f_p0_heights
set_option maxRecDepth 100000 in
set_option maxHeartbeats 4000000 in
theorem zl_X1_buildColumn_L6 {p : Program} {l : Launch} {e : Env} {s : State} {m : MethodId} {args : Array Value} {below : List Frame} {meth : Method} {c : Code} {A : Nat → Prop} {D : va_G} {J : Nat → ClassId} {F : Nat} {p1 : Int} {c_t_length : Int} {f_t_signs : Nat → Int} {a_t : Nat} {a_t_signs : Nat} {a_p0 : Nat} {a_p0_buckets : Nat} {a_p0_grades : Nat} {a_p0_heights : Nat} {a_p0_drawn : Nat} {c_p0_limit : Int} {c_p0_hungSet : Int} {c_p0_bucketSum : Int} {c_p0_gradeSum : Int} {res : Int × (Nat → Int) × (Nat → Int) × (Nat → Int)} {k : Int → Int → (Nat → Int) → (Nat → Int) → (Nat → Int) → Option (Int × (Nat → Int) × (Nat → Int) × (Nat → Int))} (hk : ∀ (v8' : Int) (v9' : Int) (v10' : (Nat → Int)) (v11' : (Nat → Int)) (v12' : (Nat → Int)), k v8' v9' v10' v11' v12' = some res → Z p l e ({ frames := 2, cells := 0, slots := 0, locals := 42 } : Room) s m args below meth c (MQ below (zQ D J A (fun rv w9 => rv = some (.int (zi res.1)) ∧ w9 = [(a_t, .inr (1, [.ref a_t_signs, .int (zi c_t_length)])), (a_t_signs, zC J 120 f_t_signs), (a_p0, .inr (0, [.ref a_p0_buckets, .ref a_p0_grades, .ref a_p0_heights, .ref a_p0_drawn, .int (zi c_p0_limit), .int (zi c_p0_hungSet), .int (zi c_p0_bucketSum), .int (zi c_p0_gradeSum)])), (a_p0_buckets, zI J 96 res.2.1), (a_p0_grades, zI J 96 res.2.2.1), (a_p0_heights, zI J 16 res.2.2.2)])) args s 0 0 A) cX1_buildColumn 6 wsX1_buildColumn RX1 D J A (some .int) (yX1_buildColumn.name, []) 0 0 [(a_t, .inr (1, [.ref a_t_signs, .int (zi c_t_length)])), (a_t_signs, zC J 120 f_t_signs), (a_p0, .inr (0, [.ref a_p0_buckets, .ref a_p0_grades, .ref a_p0_heights, .ref a_p0_drawn, .int (zi c_p0_limit), .int (zi c_p0_hungSet), .int (zi c_p0_bucketSum), .int (zi c_p0_gradeSum)])), (a_p0_buckets, zI J 96 v10'), (a_p0_grades, zI J 96 v11'), (a_p0_heights, zI J 16 v12')] [(4, .int (zi v8'))] 52 []) : ∀ (N : Nat) (v8 : Int) (v9 : Int) (v10 : (Nat → Int)) (v11 : (Nat → Int)) (v12 : (Nat → Int)), sh_X1_buildColumn_L6 F p1 c_t_length f_t_signs k N v8 v9 v10 v11 v12 = some res → Z p l e ({ frames := 2, cells := 0, slots := 0, locals := 42 } : Room) s m args below meth c (MQ below (zQ D J A (fun rv w9 => rv = some (.int (zi res.1)) ∧ w9 = [(a_t, .inr (1, [.ref a_t_signs, .int (zi c_t_length)])), (a_t_signs, zC J 120 f_t_signs), (a_p0, .inr (0, [.ref a_p0_buckets, .ref a_p0_grades, .ref a_p0_heights, .ref a_p0_drawn, .int (zi c_p0_limit), .int (zi c_p0_hungSet), .int (zi c_p0_bucketSum), .int (zi c_p0_gradeSum)])), (a_p0_buckets, zI J 96 res.2.1), (a_p0_grades, zI J 96 res.2.2.1), (a_p0_heights, zI J 16 res.2.2.2)])) args s 0 0 A) cX1_buildColumn 6 wsX1_buildColumn RX1 D J A (some .int) (yX1_buildColumn.name, []) 0 0 [(a_t, .inr (1, [.ref a_t_signs, .int (zi c_t_length)])), (a_t_signs, zC J 120 f_t_signs), (a_p0, .inr (0, [.ref a_p0_buckets, .ref a_p0_grades, .ref a_p0_heights, .ref a_p0_drawn, .int (zi c_p0_limit), .int (zi c_p0_hungSet), .int (zi c_p0_bucketSum), .int (zi c_p0_gradeSum)])), (a_p0_buckets, zI J 96 v10), (a_p0_grades, zI J 96 v11), (a_p0_heights, zI J 16 v12)] [(0, .ref a_t), (1, .ref a_p0), (2, .int (zi p1)), (4, .int (zi v8)), (5, .int (zi v9))] 6 [] := by
  intro N
  induction N with
  | zero =>
    intro v8 v9 v10 v11 v12 hsh
    exact absurd hsh (by simp [sh_X1_buildColumn_L6])
  | succ N ih =>
    intro v8 v9 v10 v11 v12 hsh
    rw [sh_X1_buildColumn_L6] at hsh
    refine z_iload (pc' := 8) 4 dX1_buildColumn_6 rfl rfl ?_
    refine z_bipush (pc' := 10) dX1_buildColumn_8 (by decide) rfl ?_
    have g13 := zkr_p hsh
    replace hsh := zkr_k hsh
    refine z_icmp_ge (pc' := 13) (tgt := 52) dX1_buildColumn_10 (by decide) g13 (by decide) rfl (fun q => ?_) (fun q => ?_)
    · replace hsh := zif_f q hsh
      refine z_perm [(a_t, .inr (1, [.ref a_t_signs, .int (zi c_t_length)])), (a_t_signs, zC J 120 f_t_signs), (a_p0, .inr (0, [.ref a_p0_buckets, .ref a_p0_grades, .ref a_p0_heights, .ref a_p0_drawn, .int (zi c_p0_limit), .int (zi c_p0_hungSet), .int (zi c_p0_bucketSum), .int (zi c_p0_gradeSum)])), (a_p0_buckets, zI J 96 v10), (a_p0_grades, zI J 96 v11), (a_p0_heights, zI J 16 v12)] [(4, .int (zi v8))] [0, 1, 2, 3, 4, 5] [3] rfl rfl rfl ?_
      exact hk _ _ _ _ _ hsh
    · replace hsh := zif_t q hsh
      refine z_aload_n (pc' := 14) 0 dX1_buildColumn_13 rfl rfl rfl ?_
      refine z_iload (pc' := 16) 3 dX1_buildColumn_14 rfl rfl ?_
      obtain ⟨q14, h15, hsh⟩ := zbind hsh
      refine z_callV (pc' := 19) (C := RX1) (As := [.int (zi v8)]) (rest := []) (wr := [(a_p0, .inr (0, [.ref a_p0_buckets, .ref a_p0_grades, .ref a_p0_heights, .ref a_p0_drawn, .int (zi c_p0_limit), .int (zi c_p0_hungSet), .int (zi c_p0_bucketSum), .int (zi c_p0_gradeSum)])), (a_p0_buckets, zI J 96 v10), (a_p0_grades, zI J 96 v11), (a_p0_heights, zI J 16 v12)]) 1 (zc_X1_sign l D J F (a_t := a_t) (a_t_signs := a_t_signs) (c_t_length := c_t_length) (f_t_signs := f_t_signs) (p0 := v8)  q14 h15) dX1_buildColumn_16 gX1_buildColumn_X1_sign rfl rfl rfl (by decide +kernel) ⟨Nat.le_of_ble_eq_true rfl, Nat.le_of_ble_eq_true rfl⟩ ⟨Nat.le_of_ble_eq_true rfl, Nat.le_of_ble_eq_true rfl⟩ (z_spl_of [0, 1, 2, 3, 4, 5] rfl rfl) rfl rfl rfl rfl (Nat.le_of_ble_eq_true rfl) rfl (fun rv w9 hq => ?_)
      obtain ⟨rfl, rfl⟩ := hq
      refine z_ws [(a_p0, .inr (0, [.ref a_p0_buckets, .ref a_p0_grades, .ref a_p0_heights, .ref a_p0_drawn, .int (zi c_p0_limit), .int (zi c_p0_hungSet), .int (zi c_p0_bucketSum), .int (zi c_p0_gradeSum)])), (a_p0_buckets, zI J 96 v10), (a_p0_grades, zI J 96 v11), (a_p0_heights, zI J 16 v12), (a_t, .inr (1, [.ref a_t_signs, .int (zi c_t_length)])), (a_t_signs, zC J 120 f_t_signs)] rfl ?_
      refine z_bipush (pc' := 21) dX1_buildColumn_19 (by decide) rfl ?_
      have g16 := zkr_p hsh
      replace hsh := zkr_k hsh
      refine z_icmp_eq (pc' := 24) (tgt := 52) dX1_buildColumn_21 (by decide) g16 (by decide) rfl (fun q => ?_) (fun q => ?_)
      · replace hsh := zif_t q hsh
        refine z_perm [(a_t, .inr (1, [.ref a_t_signs, .int (zi c_t_length)])), (a_t_signs, zC J 120 f_t_signs), (a_p0, .inr (0, [.ref a_p0_buckets, .ref a_p0_grades, .ref a_p0_heights, .ref a_p0_drawn, .int (zi c_p0_limit), .int (zi c_p0_hungSet), .int (zi c_p0_bucketSum), .int (zi c_p0_gradeSum)])), (a_p0_buckets, zI J 96 v10), (a_p0_grades, zI J 96 v11), (a_p0_heights, zI J 16 v12)] [(4, .int (zi v8))] [4, 5, 0, 1, 2, 3] [3] rfl rfl rfl ?_
        exact hk _ _ _ _ _ hsh
      · replace hsh := zif_f q hsh
        refine z_aload_n (pc' := 25) 1 dX1_buildColumn_24 rfl rfl rfl ?_
        refine z_iload_n (pc' := 26) 2 dX1_buildColumn_25 rfl rfl rfl ?_
        refine z_aload_n (pc' := 27) 0 dX1_buildColumn_26 rfl rfl rfl ?_
        refine z_iload (pc' := 29) 3 dX1_buildColumn_27 rfl rfl ?_
        obtain ⟨q17, h18, hsh⟩ := zbind hsh
        refine z_callV (pc' := 32) (C := RX1) (As := [.int (zi v8)]) (rest := [.int (zi p1), .ref a_p0]) (wr := [(a_p0, .inr (0, [.ref a_p0_buckets, .ref a_p0_grades, .ref a_p0_heights, .ref a_p0_drawn, .int (zi c_p0_limit), .int (zi c_p0_hungSet), .int (zi c_p0_bucketSum), .int (zi c_p0_gradeSum)])), (a_p0_buckets, zI J 96 v10), (a_p0_grades, zI J 96 v11), (a_p0_heights, zI J 16 v12)]) 1 (zc_X1_digit l D J F (a_t := a_t) (a_t_signs := a_t_signs) (c_t_length := c_t_length) (f_t_signs := f_t_signs) (p0 := v8)  q17 h18) dX1_buildColumn_29 gX1_buildColumn_X1_digit rfl rfl rfl (by decide +kernel) ⟨Nat.le_of_ble_eq_true rfl, Nat.le_of_ble_eq_true rfl⟩ ⟨Nat.le_of_ble_eq_true rfl, Nat.le_of_ble_eq_true rfl⟩ (z_spl_of [4, 5, 0, 1, 2, 3] rfl rfl) rfl rfl rfl rfl (Nat.le_of_ble_eq_true rfl) rfl (fun rv w9 hq => ?_)
        obtain ⟨rfl, rfl⟩ := hq
        refine z_ws [(a_p0, .inr (0, [.ref a_p0_buckets, .ref a_p0_grades, .ref a_p0_heights, .ref a_p0_drawn, .int (zi c_p0_limit), .int (zi c_p0_hungSet), .int (zi c_p0_bucketSum), .int (zi c_p0_gradeSum)])), (a_p0_buckets, zI J 96 v10), (a_p0_grades, zI J 96 v11), (a_p0_heights, zI J 16 v12), (a_t, .inr (1, [.ref a_t_signs, .int (zi c_t_length)])), (a_t_signs, zC J 120 f_t_signs)] rfl ?_
        refine z_aload_n (pc' := 33) 0 dX1_buildColumn_32 rfl rfl rfl ?_
        refine z_iload (pc' := 35) 3 dX1_buildColumn_33 rfl rfl ?_
        refine z_iconst (pc' := 36) dX1_buildColumn_35 rfl ?_
        refine z_iadd (pc' := 37) dX1_buildColumn_36 rfl ?_
        obtain ⟨q19, h20, hsh⟩ := zbind hsh
        refine z_callV (pc' := 40) (C := RX1) (As := [.int (zi (v8 + (1 : Int)))]) (rest := [.int (zi q17), .int (zi p1), .ref a_p0]) (wr := [(a_p0, .inr (0, [.ref a_p0_buckets, .ref a_p0_grades, .ref a_p0_heights, .ref a_p0_drawn, .int (zi c_p0_limit), .int (zi c_p0_hungSet), .int (zi c_p0_bucketSum), .int (zi c_p0_gradeSum)])), (a_p0_buckets, zI J 96 v10), (a_p0_grades, zI J 96 v11), (a_p0_heights, zI J 16 v12)]) 1 (zc_X1_digit l D J F (a_t := a_t) (a_t_signs := a_t_signs) (c_t_length := c_t_length) (f_t_signs := f_t_signs) (p0 := (v8 + (1 : Int)))  q19 h20) dX1_buildColumn_37 gX1_buildColumn_X1_digit rfl rfl rfl (by decide +kernel) ⟨Nat.le_of_ble_eq_true rfl, Nat.le_of_ble_eq_true rfl⟩ ⟨Nat.le_of_ble_eq_true rfl, Nat.le_of_ble_eq_true rfl⟩ (z_spl_of [4, 5, 0, 1, 2, 3] rfl rfl) rfl rfl rfl rfl (Nat.le_of_ble_eq_true rfl) rfl (fun rv w9 hq => ?_)
        obtain ⟨rfl, rfl⟩ := hq
        refine z_ws [(a_p0, .inr (0, [.ref a_p0_buckets, .ref a_p0_grades, .ref a_p0_heights, .ref a_p0_drawn, .int (zi c_p0_limit), .int (zi c_p0_hungSet), .int (zi c_p0_bucketSum), .int (zi c_p0_gradeSum)])), (a_p0_buckets, zI J 96 v10), (a_p0_grades, zI J 96 v11), (a_p0_heights, zI J 16 v12), (a_t, .inr (1, [.ref a_t_signs, .int (zi c_t_length)])), (a_t_signs, zC J 120 f_t_signs)] rfl ?_
        obtain ⟨q21, h22, hsh⟩ := zbind hsh
        refine z_callV (pc' := 43) (C := RX0) (As := [.int (zi p1), .int (zi q17), .int (zi q19)]) (rest := []) (wr := [(a_t, .inr (1, [.ref a_t_signs, .int (zi c_t_length)])), (a_t_signs, zC J 120 f_t_signs)]) 3 (zc_X0_pile l D J F (a_t := a_p0) (a_t_buckets := a_p0_buckets) (a_t_grades := a_p0_grades) (a_t_heights := a_p0_heights) (a_t_drawn := a_p0_drawn) (c_t_limit := c_p0_limit) (c_t_hungSet := c_p0_hungSet) (c_t_bucketSum := c_p0_bucketSum) (c_t_gradeSum := c_p0_gradeSum) (f_t_buckets := v10) (f_t_grades := v11) (f_t_heights := v12) (p0 := p1) (p1 := q17) (p2 := q19)  q21 h22) dX1_buildColumn_40 gX1_buildColumn_X0_pile rfl rfl rfl (by decide +kernel) ⟨Nat.le_of_ble_eq_true rfl, Nat.le_of_ble_eq_true rfl⟩ ⟨Nat.le_of_ble_eq_true rfl, Nat.le_of_ble_eq_true rfl⟩ (z_spl_of [0, 1, 2, 3, 4, 5] rfl rfl) rfl rfl rfl rfl (Nat.le_of_ble_eq_true rfl) rfl (fun rv w9 hq => ?_)
        obtain ⟨rfl, rfl⟩ := hq
        refine z_ws [(a_t, .inr (1, [.ref a_t_signs, .int (zi c_t_length)])), (a_t_signs, zC J 120 f_t_signs), (a_p0, .inr (0, [.ref a_p0_buckets, .ref a_p0_grades, .ref a_p0_heights, .ref a_p0_drawn, .int (zi c_p0_limit), .int (zi c_p0_hungSet), .int (zi c_p0_bucketSum), .int (zi c_p0_gradeSum)])), (a_p0_buckets, zI J 96 q21.1), (a_p0_grades, zI J 96 q21.2.1), (a_p0_heights, zI J 16 q21.2.2)] rfl ?_
        refine z_iinc (pc' := 46) [(4, .int (zi (v8 + (2 : Int)))), (0, .ref a_t), (1, .ref a_p0), (2, .int (zi p1)), (5, .int (zi v9))] 3 dX1_buildColumn_43 rfl (by decide) rfl rfl ?_
        refine z_iinc (pc' := 49) [(5, .int (zi (v9 + (1 : Int)))), (4, .int (zi (v8 + (2 : Int)))), (0, .ref a_t), (1, .ref a_p0), (2, .int (zi p1))] 4 dX1_buildColumn_46 rfl (by decide) rfl rfl ?_
        refine z_goto (tgt := 6) dX1_buildColumn_49 (by decide) ?_
        refine z_perm [(a_t, .inr (1, [.ref a_t_signs, .int (zi c_t_length)])), (a_t_signs, zC J 120 f_t_signs), (a_p0, .inr (0, [.ref a_p0_buckets, .ref a_p0_grades, .ref a_p0_heights, .ref a_p0_drawn, .int (zi c_p0_limit), .int (zi c_p0_hungSet), .int (zi c_p0_bucketSum), .int (zi c_p0_gradeSum)])), (a_p0_buckets, zI J 96 q21.1), (a_p0_grades, zI J 96 q21.2.1), (a_p0_heights, zI J 16 q21.2.2)] [(0, .ref a_t), (1, .ref a_p0), (2, .int (zi p1)), (4, .int (zi (v8 + (2 : Int)))), (5, .int (zi (v9 + (1 : Int))))] [0, 1, 2, 3, 4, 5] [2, 3, 4, 1, 0] rfl rfl rfl ?_
        exact ih _ _ _ _ _ hsh
set_option maxRecDepth 100000 in
set_option maxHeartbeats 4000000 in
theorem zc_X1_buildColumn (l : Launch) (D : va_G) (J : Nat → ClassId) (F : Nat) (a_t : Nat) (a_p0 : Nat) (a_t_signs : Nat) (a_p0_buckets : Nat) (a_p0_grades : Nat) (a_p0_heights : Nat) (a_p0_drawn : Nat) (c_t_length : Int) (f_t_signs : Nat → Int) (c_p0_limit : Int) (c_p0_hungSet : Int) (c_p0_bucketSum : Int) (c_p0_gradeSum : Int) (f_p0_buckets : Nat → Int) (f_p0_grades : Nat → Int) (f_p0_heights : Nat → Int) (p1 : Int) (p2 : Int) (res : Int × (Nat → Int) × (Nat → Int) × (Nat → Int)) (hsh : sh_X1_buildColumn F c_t_length f_t_signs f_p0_buckets f_p0_grades f_p0_heights p1 p2 = some res) : ZM l D J yX1_buildColumn wsX1_buildColumn ({ frames := 2, cells := 0, slots := 0, locals := 42 } : Room) 0 0 [.ref a_t, .ref a_p0, .int (zi p1), .int (zi p2)] [(a_t, .inr (1, [.ref a_t_signs, .int (zi c_t_length)])), (a_t_signs, zC J 120 f_t_signs), (a_p0, .inr (0, [.ref a_p0_buckets, .ref a_p0_grades, .ref a_p0_heights, .ref a_p0_drawn, .int (zi c_p0_limit), .int (zi c_p0_hungSet), .int (zi c_p0_bucketSum), .int (zi c_p0_gradeSum)])), (a_p0_buckets, zI J 96 f_p0_buckets), (a_p0_grades, zI J 96 f_p0_grades), (a_p0_heights, zI J 16 f_p0_heights)] (fun rv w9 => rv = some (.int (zi res.1)) ∧ w9 = [(a_t, .inr (1, [.ref a_t_signs, .int (zi c_t_length)])), (a_t_signs, zC J 120 f_t_signs), (a_p0, .inr (0, [.ref a_p0_buckets, .ref a_p0_grades, .ref a_p0_heights, .ref a_p0_drawn, .int (zi c_p0_limit), .int (zi c_p0_hungSet), .int (zi c_p0_bucketSum), .int (zi c_p0_gradeSum)])), (a_p0_buckets, zI J 96 res.2.1), (a_p0_grades, zI J 96 res.2.2.1), (a_p0_heights, zI J 16 res.2.2.2)]) := by
  refine z_ofZ (cc := cX1_buildColumn) (maxL := 6) (ret := (some .int)) 0 0 (by decide) rfl (Nat.le_of_ble_eq_true rfl) [(0, .ref a_t), (1, .ref a_p0), (2, .int (zi p1)), (3, .int (zi p2))] rfl ?_
  intro p e s m args below meth c A
  unfold sh_X1_buildColumn at hsh
  refine z_iload_n (pc' := 1) 3 dX1_buildColumn_0 rfl rfl rfl ?_
  refine z_istore (pc' := 3) [(4, .int (zi p2)), (0, .ref a_t), (1, .ref a_p0), (2, .int (zi p1)), (3, .int (zi p2))] dX1_buildColumn_1 (by decide) rfl rfl ?_
  refine z_iconst (pc' := 4) dX1_buildColumn_3 rfl ?_
  refine z_istore (pc' := 6) [(5, .int (zi (0 : Int))), (4, .int (zi p2)), (0, .ref a_t), (1, .ref a_p0), (2, .int (zi p1)), (3, .int (zi p2))] dX1_buildColumn_4 (by decide) rfl rfl ?_
  refine z_perm [(a_t, .inr (1, [.ref a_t_signs, .int (zi c_t_length)])), (a_t_signs, zC J 120 f_t_signs), (a_p0, .inr (0, [.ref a_p0_buckets, .ref a_p0_grades, .ref a_p0_heights, .ref a_p0_drawn, .int (zi c_p0_limit), .int (zi c_p0_hungSet), .int (zi c_p0_bucketSum), .int (zi c_p0_gradeSum)])), (a_p0_buckets, zI J 96 f_p0_buckets), (a_p0_grades, zI J 96 f_p0_grades), (a_p0_heights, zI J 16 f_p0_heights)] [(0, .ref a_t), (1, .ref a_p0), (2, .int (zi p1)), (4, .int (zi p2)), (5, .int (zi (0 : Int)))] [0, 1, 2, 3, 4, 5] [2, 3, 4, 1, 0] rfl rfl rfl ?_
  refine zl_X1_buildColumn_L6 (F := F) (hk := fun v23 v24 v25 v26 v27 hsh => ?_) _ _ _ _ _ _ hsh
  refine z_iload (pc' := 54) 0 dX1_buildColumn_52 rfl rfl ?_
  refine z_iconst (pc' := 55) dX1_buildColumn_54 rfl ?_
  refine z_iadd (pc' := 56) dX1_buildColumn_55 rfl ?_
  cases hsh
  exact z_iret rfl dX1_buildColumn_56 ⟨rfl, rfl⟩
def sh_X1_build_L28 (F : Nat) (c_t_length : Int) (f_t_signs : Nat → Int) (q5 : Int × (Nat → Int) × (Nat → Int) × (Nat → Int) × (Nat → Int)) (k : Int → Int → (Nat → Int) → (Nat → Int) → (Nat → Int) → Option (Int × (Nat → Int) × (Nat → Int) × (Nat → Int) × (Nat → Int) × Int × Int × Int × Int × (Nat → Int) × (Nat → Int) × (Nat → Int) × (Nat → Int))) : Nat → Int → Int → (Nat → Int) → (Nat → Int) → (Nat → Int) → Option (Int × (Nat → Int) × (Nat → Int) × (Nat → Int) × (Nat → Int) × Int × Int × Int × Int × (Nat → Int) × (Nat → Int) × (Nat → Int) × (Nat → Int))
  | 0, _, _, _, _, _ => none
  | N + 1, v18, v19, v20, v21, v22 => (sh_X2_size F q5.1).bind (fun (q23 : Int) => zkr v19 (zkr q23 (if v19 < q23 then (sh_X1_buildColumn F c_t_length f_t_signs v20 v21 v22 v19 v18).bind (fun (q27 : Int × (Nat → Int) × (Nat → Int) × (Nat → Int)) => sh_X1_build_L28 F c_t_length f_t_signs q5 k N q27.1 (v19 + (1 : Int)) q27.2.1 q27.2.2.1 q27.2.2.2) else k v18 v19 v20 v21 v22)))
def sh_X1_build (F : Nat) (c_t_length : Int) (f_t_signs : Nat → Int) (f_p0_rowOf : Nat → Int) (f_p0_columnOf : Nat → Int) (f_p0_neighbours : Nat → Int) (f_p0_neighbourCount : Nat → Int) (f_p1_buckets : Nat → Int) (f_p1_grades : Nat → Int) (f_p1_heights : Nat → Int) (f_p1_drawn : Nat → Int) : Option (Int × (Nat → Int) × (Nat → Int) × (Nat → Int) × (Nat → Int) × Int × Int × Int × Int × (Nat → Int) × (Nat → Int) × (Nat → Int) × (Nat → Int)) := (sh_X1_digit F c_t_length f_t_signs (1 : Int)).bind (fun (q1 : Int) => (sh_X1_digit F c_t_length f_t_signs (2 : Int)).bind (fun (q3 : Int) => (sh_X2_shape F f_p0_rowOf f_p0_columnOf f_p0_neighbours f_p0_neighbourCount q1 q3).bind (fun (q5 : Int × (Nat → Int) × (Nat → Int) × (Nat → Int) × (Nat → Int)) => (sh_X1_digit F c_t_length f_t_signs (3 : Int)).bind (fun (q7 : Int) => (sh_X0_clear F f_p1_heights f_p1_drawn q7).bind (fun (q9 : Int × Int × Int × Int × (Nat → Int) × (Nat → Int)) => sh_X1_build_L28 F c_t_length f_t_signs q5 (fun (v29 : Int) (v30 : Int) (v31 : (Nat → Int)) (v32 : (Nat → Int)) (v33 : (Nat → Int)) => some (q5.1, q5.2.1, q5.2.2.1, q5.2.2.2.1, q5.2.2.2.2, q9.1, q9.2.1, q9.2.2.1, q9.2.2.2.1, v31, v32, v33, q9.2.2.2.2.2)) F (4 : Int) (0 : Int) f_p1_buckets f_p1_grades q9.2.2.2.2.1)))))
set_option maxRecDepth 100000 in
set_option maxHeartbeats 4000000 in
theorem zl_X1_build_L28 {p : Program} {l : Launch} {e : Env} {s : State} {m : MethodId} {args : Array Value} {below : List Frame} {meth : Method} {c : Code} {A : Nat → Prop} {D : va_G} {J : Nat → ClassId} {F : Nat} {c_t_length : Int} {f_t_signs : Nat → Int} {q5 : Int × (Nat → Int) × (Nat → Int) × (Nat → Int) × (Nat → Int)} {a_t : Nat} {a_t_signs : Nat} {a_p0 : Nat} {a_p0_rowOf : Nat} {a_p0_columnOf : Nat} {a_p0_neighbours : Nat} {a_p0_neighbourCount : Nat} {a_p1 : Nat} {a_p1_buckets : Nat} {a_p1_grades : Nat} {a_p1_heights : Nat} {a_p1_drawn : Nat} {q9 : Int × Int × Int × Int × (Nat → Int) × (Nat → Int)} {res : Int × (Nat → Int) × (Nat → Int) × (Nat → Int) × (Nat → Int) × Int × Int × Int × Int × (Nat → Int) × (Nat → Int) × (Nat → Int) × (Nat → Int)} {k : Int → Int → (Nat → Int) → (Nat → Int) → (Nat → Int) → Option (Int × (Nat → Int) × (Nat → Int) × (Nat → Int) × (Nat → Int) × Int × Int × Int × Int × (Nat → Int) × (Nat → Int) × (Nat → Int) × (Nat → Int))} (hk : ∀ (v18' : Int) (v19' : Int) (v20' : (Nat → Int)) (v21' : (Nat → Int)) (v22' : (Nat → Int)), k v18' v19' v20' v21' v22' = some res → Z p l e ({ frames := 4, cells := 0, slots := 0, locals := 91 } : Room) s m args below meth c (MQ below (zQ D J A (fun rv w9 => rv = none ∧ w9 = [(a_t, .inr (1, [.ref a_t_signs, .int (zi c_t_length)])), (a_t_signs, zC J 120 f_t_signs), (a_p0, .inr (2, [.ref a_p0_rowOf, .ref a_p0_columnOf, .ref a_p0_neighbours, .ref a_p0_neighbourCount, .int (zi res.1)])), (a_p0_rowOf, zI J 16 res.2.1), (a_p0_columnOf, zI J 16 res.2.2.1), (a_p0_neighbours, zI J 64 res.2.2.2.1), (a_p0_neighbourCount, zI J 16 res.2.2.2.2.1), (a_p1, .inr (0, [.ref a_p1_buckets, .ref a_p1_grades, .ref a_p1_heights, .ref a_p1_drawn, .int (zi res.2.2.2.2.2.1), .int (zi res.2.2.2.2.2.2.1), .int (zi res.2.2.2.2.2.2.2.1), .int (zi res.2.2.2.2.2.2.2.2.1)])), (a_p1_buckets, zI J 96 res.2.2.2.2.2.2.2.2.2.1), (a_p1_grades, zI J 96 res.2.2.2.2.2.2.2.2.2.2.1), (a_p1_heights, zI J 16 res.2.2.2.2.2.2.2.2.2.2.2.1), (a_p1_drawn, zI J 16 res.2.2.2.2.2.2.2.2.2.2.2.2)])) args s 0 0 A) cX1_build 5 wsX1_build RX1 D J A none (yX1_build.name, []) 0 0 [(a_t, .inr (1, [.ref a_t_signs, .int (zi c_t_length)])), (a_t_signs, zC J 120 f_t_signs), (a_p0, .inr (2, [.ref a_p0_rowOf, .ref a_p0_columnOf, .ref a_p0_neighbours, .ref a_p0_neighbourCount, .int (zi q5.1)])), (a_p0_rowOf, zI J 16 q5.2.1), (a_p0_columnOf, zI J 16 q5.2.2.1), (a_p0_neighbours, zI J 64 q5.2.2.2.1), (a_p0_neighbourCount, zI J 16 q5.2.2.2.2), (a_p1, .inr (0, [.ref a_p1_buckets, .ref a_p1_grades, .ref a_p1_heights, .ref a_p1_drawn, .int (zi q9.1), .int (zi q9.2.1), .int (zi q9.2.2.1), .int (zi q9.2.2.2.1)])), (a_p1_buckets, zI J 96 v20'), (a_p1_grades, zI J 96 v21'), (a_p1_heights, zI J 16 v22'), (a_p1_drawn, zI J 16 q9.2.2.2.2.2)] [] 52 []) : ∀ (N : Nat) (v18 : Int) (v19 : Int) (v20 : (Nat → Int)) (v21 : (Nat → Int)) (v22 : (Nat → Int)), sh_X1_build_L28 F c_t_length f_t_signs q5 k N v18 v19 v20 v21 v22 = some res → Z p l e ({ frames := 4, cells := 0, slots := 0, locals := 91 } : Room) s m args below meth c (MQ below (zQ D J A (fun rv w9 => rv = none ∧ w9 = [(a_t, .inr (1, [.ref a_t_signs, .int (zi c_t_length)])), (a_t_signs, zC J 120 f_t_signs), (a_p0, .inr (2, [.ref a_p0_rowOf, .ref a_p0_columnOf, .ref a_p0_neighbours, .ref a_p0_neighbourCount, .int (zi res.1)])), (a_p0_rowOf, zI J 16 res.2.1), (a_p0_columnOf, zI J 16 res.2.2.1), (a_p0_neighbours, zI J 64 res.2.2.2.1), (a_p0_neighbourCount, zI J 16 res.2.2.2.2.1), (a_p1, .inr (0, [.ref a_p1_buckets, .ref a_p1_grades, .ref a_p1_heights, .ref a_p1_drawn, .int (zi res.2.2.2.2.2.1), .int (zi res.2.2.2.2.2.2.1), .int (zi res.2.2.2.2.2.2.2.1), .int (zi res.2.2.2.2.2.2.2.2.1)])), (a_p1_buckets, zI J 96 res.2.2.2.2.2.2.2.2.2.1), (a_p1_grades, zI J 96 res.2.2.2.2.2.2.2.2.2.2.1), (a_p1_heights, zI J 16 res.2.2.2.2.2.2.2.2.2.2.2.1), (a_p1_drawn, zI J 16 res.2.2.2.2.2.2.2.2.2.2.2.2)])) args s 0 0 A) cX1_build 5 wsX1_build RX1 D J A none (yX1_build.name, []) 0 0 [(a_t, .inr (1, [.ref a_t_signs, .int (zi c_t_length)])), (a_t_signs, zC J 120 f_t_signs), (a_p0, .inr (2, [.ref a_p0_rowOf, .ref a_p0_columnOf, .ref a_p0_neighbours, .ref a_p0_neighbourCount, .int (zi q5.1)])), (a_p0_rowOf, zI J 16 q5.2.1), (a_p0_columnOf, zI J 16 q5.2.2.1), (a_p0_neighbours, zI J 64 q5.2.2.2.1), (a_p0_neighbourCount, zI J 16 q5.2.2.2.2), (a_p1, .inr (0, [.ref a_p1_buckets, .ref a_p1_grades, .ref a_p1_heights, .ref a_p1_drawn, .int (zi q9.1), .int (zi q9.2.1), .int (zi q9.2.2.1), .int (zi q9.2.2.2.1)])), (a_p1_buckets, zI J 96 v20), (a_p1_grades, zI J 96 v21), (a_p1_heights, zI J 16 v22), (a_p1_drawn, zI J 16 q9.2.2.2.2.2)] [(0, .ref a_t), (1, .ref a_p0), (2, .ref a_p1), (3, .int (zi v18)), (4, .int (zi v19))] 28 [] := by
  intro N
  induction N with
  | zero =>
    intro v18 v19 v20 v21 v22 hsh
    exact absurd hsh (by simp [sh_X1_build_L28])
  | succ N ih =>
    intro v18 v19 v20 v21 v22 hsh
    rw [sh_X1_build_L28] at hsh
    refine z_iload (pc' := 30) 4 dX1_build_28 rfl rfl ?_
    refine z_aload_n (pc' := 31) 1 dX1_build_30 rfl rfl rfl ?_
    obtain ⟨q23, h24, hsh⟩ := zbind hsh
    refine z_callV (pc' := 34) (C := RX2) (As := []) (rest := [.int (zi v19)]) (wr := [(a_t, .inr (1, [.ref a_t_signs, .int (zi c_t_length)])), (a_t_signs, zC J 120 f_t_signs), (a_p0_rowOf, zI J 16 q5.2.1), (a_p0_columnOf, zI J 16 q5.2.2.1), (a_p0_neighbours, zI J 64 q5.2.2.2.1), (a_p0_neighbourCount, zI J 16 q5.2.2.2.2), (a_p1, .inr (0, [.ref a_p1_buckets, .ref a_p1_grades, .ref a_p1_heights, .ref a_p1_drawn, .int (zi q9.1), .int (zi q9.2.1), .int (zi q9.2.2.1), .int (zi q9.2.2.2.1)])), (a_p1_buckets, zI J 96 v20), (a_p1_grades, zI J 96 v21), (a_p1_heights, zI J 16 v22), (a_p1_drawn, zI J 16 q9.2.2.2.2.2)]) 0 (zc_X2_size l D J F (a_t := a_p0) (a_t_rowOf := a_p0_rowOf) (a_t_columnOf := a_p0_columnOf) (a_t_neighbours := a_p0_neighbours) (a_t_neighbourCount := a_p0_neighbourCount) (c_t_size := q5.1)  q23 h24) dX1_build_31 gX1_build_X2_size rfl rfl rfl (by decide +kernel) ⟨Nat.le_of_ble_eq_true rfl, Nat.le_of_ble_eq_true rfl⟩ ⟨Nat.le_of_ble_eq_true rfl, Nat.le_of_ble_eq_true rfl⟩ (z_spl_of [2, 0, 1, 3, 4, 5, 6, 7, 8, 9, 10, 11] rfl rfl) rfl rfl rfl rfl (Nat.le_of_ble_eq_true rfl) rfl (fun rv w9 hq => ?_)
    obtain ⟨rfl, rfl⟩ := hq
    refine z_ws [(a_t, .inr (1, [.ref a_t_signs, .int (zi c_t_length)])), (a_t_signs, zC J 120 f_t_signs), (a_p0_rowOf, zI J 16 q5.2.1), (a_p0_columnOf, zI J 16 q5.2.2.1), (a_p0_neighbours, zI J 64 q5.2.2.2.1), (a_p0_neighbourCount, zI J 16 q5.2.2.2.2), (a_p1, .inr (0, [.ref a_p1_buckets, .ref a_p1_grades, .ref a_p1_heights, .ref a_p1_drawn, .int (zi q9.1), .int (zi q9.2.1), .int (zi q9.2.2.1), .int (zi q9.2.2.2.1)])), (a_p1_buckets, zI J 96 v20), (a_p1_grades, zI J 96 v21), (a_p1_heights, zI J 16 v22), (a_p1_drawn, zI J 16 q9.2.2.2.2.2), (a_p0, .inr (2, [.ref a_p0_rowOf, .ref a_p0_columnOf, .ref a_p0_neighbours, .ref a_p0_neighbourCount, .int (zi q5.1)]))] rfl ?_
    have g25 := zkr_p hsh
    replace hsh := zkr_k hsh
    have g26 := zkr_p hsh
    replace hsh := zkr_k hsh
    refine z_icmp_ge (pc' := 37) (tgt := 52) dX1_build_34 (by decide) g25 g26 rfl (fun q => ?_) (fun q => ?_)
    · replace hsh := zif_f q hsh
      refine z_perm [(a_t, .inr (1, [.ref a_t_signs, .int (zi c_t_length)])), (a_t_signs, zC J 120 f_t_signs), (a_p0, .inr (2, [.ref a_p0_rowOf, .ref a_p0_columnOf, .ref a_p0_neighbours, .ref a_p0_neighbourCount, .int (zi q5.1)])), (a_p0_rowOf, zI J 16 q5.2.1), (a_p0_columnOf, zI J 16 q5.2.2.1), (a_p0_neighbours, zI J 64 q5.2.2.2.1), (a_p0_neighbourCount, zI J 16 q5.2.2.2.2), (a_p1, .inr (0, [.ref a_p1_buckets, .ref a_p1_grades, .ref a_p1_heights, .ref a_p1_drawn, .int (zi q9.1), .int (zi q9.2.1), .int (zi q9.2.2.1), .int (zi q9.2.2.2.1)])), (a_p1_buckets, zI J 96 v20), (a_p1_grades, zI J 96 v21), (a_p1_heights, zI J 16 v22), (a_p1_drawn, zI J 16 q9.2.2.2.2.2)] [] [0, 1, 11, 2, 3, 4, 5, 6, 7, 8, 9, 10] [] rfl rfl rfl ?_
      exact hk _ _ _ _ _ hsh
    · replace hsh := zif_t q hsh
      refine z_aload_n (pc' := 38) 0 dX1_build_37 rfl rfl rfl ?_
      refine z_aload_n (pc' := 39) 2 dX1_build_38 rfl rfl rfl ?_
      refine z_iload (pc' := 41) 4 dX1_build_39 rfl rfl ?_
      refine z_iload_n (pc' := 42) 3 dX1_build_41 rfl rfl rfl ?_
      obtain ⟨q27, h28, hsh⟩ := zbind hsh
      refine z_callV (pc' := 45) (C := RX1) (As := [.ref a_p1, .int (zi v19), .int (zi v18)]) (rest := []) (wr := [(a_p0_rowOf, zI J 16 q5.2.1), (a_p0_columnOf, zI J 16 q5.2.2.1), (a_p0_neighbours, zI J 64 q5.2.2.2.1), (a_p0_neighbourCount, zI J 16 q5.2.2.2.2), (a_p1_drawn, zI J 16 q9.2.2.2.2.2), (a_p0, .inr (2, [.ref a_p0_rowOf, .ref a_p0_columnOf, .ref a_p0_neighbours, .ref a_p0_neighbourCount, .int (zi q5.1)]))]) 3 (zc_X1_buildColumn l D J F (a_t := a_t) (a_p0 := a_p1) (a_t_signs := a_t_signs) (a_p0_buckets := a_p1_buckets) (a_p0_grades := a_p1_grades) (a_p0_heights := a_p1_heights) (a_p0_drawn := a_p1_drawn) (c_t_length := c_t_length) (f_t_signs := f_t_signs) (c_p0_limit := q9.1) (c_p0_hungSet := q9.2.1) (c_p0_bucketSum := q9.2.2.1) (c_p0_gradeSum := q9.2.2.2.1) (f_p0_buckets := v20) (f_p0_grades := v21) (f_p0_heights := v22) (p1 := v19) (p2 := v18)  q27 h28) dX1_build_42 gX1_build_X1_buildColumn rfl rfl rfl (by decide +kernel) ⟨Nat.le_of_ble_eq_true rfl, Nat.le_of_ble_eq_true rfl⟩ ⟨Nat.le_of_ble_eq_true rfl, Nat.le_of_ble_eq_true rfl⟩ (z_spl_of [0, 1, 6, 7, 8, 9, 2, 3, 4, 5, 10, 11] rfl rfl) rfl rfl rfl rfl (Nat.le_of_ble_eq_true rfl) rfl (fun rv w9 hq => ?_)
      obtain ⟨rfl, rfl⟩ := hq
      refine z_ws [(a_p0_rowOf, zI J 16 q5.2.1), (a_p0_columnOf, zI J 16 q5.2.2.1), (a_p0_neighbours, zI J 64 q5.2.2.2.1), (a_p0_neighbourCount, zI J 16 q5.2.2.2.2), (a_p1_drawn, zI J 16 q9.2.2.2.2.2), (a_p0, .inr (2, [.ref a_p0_rowOf, .ref a_p0_columnOf, .ref a_p0_neighbours, .ref a_p0_neighbourCount, .int (zi q5.1)])), (a_t, .inr (1, [.ref a_t_signs, .int (zi c_t_length)])), (a_t_signs, zC J 120 f_t_signs), (a_p1, .inr (0, [.ref a_p1_buckets, .ref a_p1_grades, .ref a_p1_heights, .ref a_p1_drawn, .int (zi q9.1), .int (zi q9.2.1), .int (zi q9.2.2.1), .int (zi q9.2.2.2.1)])), (a_p1_buckets, zI J 96 q27.2.1), (a_p1_grades, zI J 96 q27.2.2.1), (a_p1_heights, zI J 16 q27.2.2.2)] rfl ?_
      refine z_istore_n (pc' := 46) [(3, .int (zi q27.1)), (0, .ref a_t), (1, .ref a_p0), (2, .ref a_p1), (4, .int (zi v19))] dX1_build_45 rfl (by decide) rfl rfl ?_
      refine z_iinc (pc' := 49) [(4, .int (zi (v19 + (1 : Int)))), (3, .int (zi q27.1)), (0, .ref a_t), (1, .ref a_p0), (2, .ref a_p1)] 4 dX1_build_46 rfl (by decide) rfl rfl ?_
      refine z_goto (tgt := 28) dX1_build_49 (by decide) ?_
      refine z_perm [(a_t, .inr (1, [.ref a_t_signs, .int (zi c_t_length)])), (a_t_signs, zC J 120 f_t_signs), (a_p0, .inr (2, [.ref a_p0_rowOf, .ref a_p0_columnOf, .ref a_p0_neighbours, .ref a_p0_neighbourCount, .int (zi q5.1)])), (a_p0_rowOf, zI J 16 q5.2.1), (a_p0_columnOf, zI J 16 q5.2.2.1), (a_p0_neighbours, zI J 64 q5.2.2.2.1), (a_p0_neighbourCount, zI J 16 q5.2.2.2.2), (a_p1, .inr (0, [.ref a_p1_buckets, .ref a_p1_grades, .ref a_p1_heights, .ref a_p1_drawn, .int (zi q9.1), .int (zi q9.2.1), .int (zi q9.2.2.1), .int (zi q9.2.2.2.1)])), (a_p1_buckets, zI J 96 q27.2.1), (a_p1_grades, zI J 96 q27.2.2.1), (a_p1_heights, zI J 16 q27.2.2.2), (a_p1_drawn, zI J 16 q9.2.2.2.2.2)] [(0, .ref a_t), (1, .ref a_p0), (2, .ref a_p1), (3, .int (zi q27.1)), (4, .int (zi (v19 + (1 : Int))))] [6, 7, 5, 0, 1, 2, 3, 8, 9, 10, 11, 4] [2, 3, 4, 1, 0] rfl rfl rfl ?_
      exact ih _ _ _ _ _ hsh
set_option maxRecDepth 100000 in
set_option maxHeartbeats 4000000 in
theorem zc_X1_build (l : Launch) (D : va_G) (J : Nat → ClassId) (F : Nat) (a_t : Nat) (a_p0 : Nat) (a_p1 : Nat) (a_t_signs : Nat) (a_p0_rowOf : Nat) (a_p0_columnOf : Nat) (a_p0_neighbours : Nat) (a_p0_neighbourCount : Nat) (a_p1_buckets : Nat) (a_p1_grades : Nat) (a_p1_heights : Nat) (a_p1_drawn : Nat) (c_t_length : Int) (f_t_signs : Nat → Int) (c_p0_size : Int) (f_p0_rowOf : Nat → Int) (f_p0_columnOf : Nat → Int) (f_p0_neighbours : Nat → Int) (f_p0_neighbourCount : Nat → Int) (c_p1_limit : Int) (c_p1_hungSet : Int) (c_p1_bucketSum : Int) (c_p1_gradeSum : Int) (f_p1_buckets : Nat → Int) (f_p1_grades : Nat → Int) (f_p1_heights : Nat → Int) (f_p1_drawn : Nat → Int) (res : Int × (Nat → Int) × (Nat → Int) × (Nat → Int) × (Nat → Int) × Int × Int × Int × Int × (Nat → Int) × (Nat → Int) × (Nat → Int) × (Nat → Int)) (hsh : sh_X1_build F c_t_length f_t_signs f_p0_rowOf f_p0_columnOf f_p0_neighbours f_p0_neighbourCount f_p1_buckets f_p1_grades f_p1_heights f_p1_drawn = some res) : ZM l D J yX1_build wsX1_build ({ frames := 4, cells := 0, slots := 0, locals := 91 } : Room) 0 0 [.ref a_t, .ref a_p0, .ref a_p1] [(a_t, .inr (1, [.ref a_t_signs, .int (zi c_t_length)])), (a_t_signs, zC J 120 f_t_signs), (a_p0, .inr (2, [.ref a_p0_rowOf, .ref a_p0_columnOf, .ref a_p0_neighbours, .ref a_p0_neighbourCount, .int (zi c_p0_size)])), (a_p0_rowOf, zI J 16 f_p0_rowOf), (a_p0_columnOf, zI J 16 f_p0_columnOf), (a_p0_neighbours, zI J 64 f_p0_neighbours), (a_p0_neighbourCount, zI J 16 f_p0_neighbourCount), (a_p1, .inr (0, [.ref a_p1_buckets, .ref a_p1_grades, .ref a_p1_heights, .ref a_p1_drawn, .int (zi c_p1_limit), .int (zi c_p1_hungSet), .int (zi c_p1_bucketSum), .int (zi c_p1_gradeSum)])), (a_p1_buckets, zI J 96 f_p1_buckets), (a_p1_grades, zI J 96 f_p1_grades), (a_p1_heights, zI J 16 f_p1_heights), (a_p1_drawn, zI J 16 f_p1_drawn)] (fun rv w9 => rv = none ∧ w9 = [(a_t, .inr (1, [.ref a_t_signs, .int (zi c_t_length)])), (a_t_signs, zC J 120 f_t_signs), (a_p0, .inr (2, [.ref a_p0_rowOf, .ref a_p0_columnOf, .ref a_p0_neighbours, .ref a_p0_neighbourCount, .int (zi res.1)])), (a_p0_rowOf, zI J 16 res.2.1), (a_p0_columnOf, zI J 16 res.2.2.1), (a_p0_neighbours, zI J 64 res.2.2.2.1), (a_p0_neighbourCount, zI J 16 res.2.2.2.2.1), (a_p1, .inr (0, [.ref a_p1_buckets, .ref a_p1_grades, .ref a_p1_heights, .ref a_p1_drawn, .int (zi res.2.2.2.2.2.1), .int (zi res.2.2.2.2.2.2.1), .int (zi res.2.2.2.2.2.2.2.1), .int (zi res.2.2.2.2.2.2.2.2.1)])), (a_p1_buckets, zI J 96 res.2.2.2.2.2.2.2.2.2.1), (a_p1_grades, zI J 96 res.2.2.2.2.2.2.2.2.2.2.1), (a_p1_heights, zI J 16 res.2.2.2.2.2.2.2.2.2.2.2.1), (a_p1_drawn, zI J 16 res.2.2.2.2.2.2.2.2.2.2.2.2)]) := by
  refine z_ofZ (cc := cX1_build) (maxL := 5) (ret := none) 0 0 (by decide) rfl (Nat.le_of_ble_eq_true rfl) [(0, .ref a_t), (1, .ref a_p0), (2, .ref a_p1)] rfl ?_
  intro p e s m args below meth c A
  unfold sh_X1_build at hsh
  refine z_aload_n (pc' := 1) 1 dX1_build_0 rfl rfl rfl ?_
  refine z_aload_n (pc' := 2) 0 dX1_build_1 rfl rfl rfl ?_
  refine z_iconst (pc' := 3) dX1_build_2 rfl ?_
  obtain ⟨q1, h2, hsh⟩ := zbind hsh
  refine z_callV (pc' := 6) (C := RX1) (As := [.int (zi (1 : Int))]) (rest := [.ref a_p0]) (wr := [(a_p0, .inr (2, [.ref a_p0_rowOf, .ref a_p0_columnOf, .ref a_p0_neighbours, .ref a_p0_neighbourCount, .int (zi c_p0_size)])), (a_p0_rowOf, zI J 16 f_p0_rowOf), (a_p0_columnOf, zI J 16 f_p0_columnOf), (a_p0_neighbours, zI J 64 f_p0_neighbours), (a_p0_neighbourCount, zI J 16 f_p0_neighbourCount), (a_p1, .inr (0, [.ref a_p1_buckets, .ref a_p1_grades, .ref a_p1_heights, .ref a_p1_drawn, .int (zi c_p1_limit), .int (zi c_p1_hungSet), .int (zi c_p1_bucketSum), .int (zi c_p1_gradeSum)])), (a_p1_buckets, zI J 96 f_p1_buckets), (a_p1_grades, zI J 96 f_p1_grades), (a_p1_heights, zI J 16 f_p1_heights), (a_p1_drawn, zI J 16 f_p1_drawn)]) 1 (zc_X1_digit l D J F (a_t := a_t) (a_t_signs := a_t_signs) (c_t_length := c_t_length) (f_t_signs := f_t_signs) (p0 := (1 : Int))  q1 h2) dX1_build_3 gX1_build_X1_digit rfl rfl rfl (by decide +kernel) ⟨Nat.le_of_ble_eq_true rfl, Nat.le_of_ble_eq_true rfl⟩ ⟨Nat.le_of_ble_eq_true rfl, Nat.le_of_ble_eq_true rfl⟩ (z_spl_of [0, 1, 2, 3, 4, 5, 6, 7, 8, 9, 10, 11] rfl rfl) rfl rfl rfl rfl (Nat.le_of_ble_eq_true rfl) rfl (fun rv w9 hq => ?_)
  obtain ⟨rfl, rfl⟩ := hq
  refine z_ws [(a_p0, .inr (2, [.ref a_p0_rowOf, .ref a_p0_columnOf, .ref a_p0_neighbours, .ref a_p0_neighbourCount, .int (zi c_p0_size)])), (a_p0_rowOf, zI J 16 f_p0_rowOf), (a_p0_columnOf, zI J 16 f_p0_columnOf), (a_p0_neighbours, zI J 64 f_p0_neighbours), (a_p0_neighbourCount, zI J 16 f_p0_neighbourCount), (a_p1, .inr (0, [.ref a_p1_buckets, .ref a_p1_grades, .ref a_p1_heights, .ref a_p1_drawn, .int (zi c_p1_limit), .int (zi c_p1_hungSet), .int (zi c_p1_bucketSum), .int (zi c_p1_gradeSum)])), (a_p1_buckets, zI J 96 f_p1_buckets), (a_p1_grades, zI J 96 f_p1_grades), (a_p1_heights, zI J 16 f_p1_heights), (a_p1_drawn, zI J 16 f_p1_drawn), (a_t, .inr (1, [.ref a_t_signs, .int (zi c_t_length)])), (a_t_signs, zC J 120 f_t_signs)] rfl ?_
  refine z_aload_n (pc' := 7) 0 dX1_build_6 rfl rfl rfl ?_
  refine z_iconst (pc' := 8) dX1_build_7 rfl ?_
  obtain ⟨q3, h4, hsh⟩ := zbind hsh
  refine z_callV (pc' := 11) (C := RX1) (As := [.int (zi (2 : Int))]) (rest := [.int (zi q1), .ref a_p0]) (wr := [(a_p0, .inr (2, [.ref a_p0_rowOf, .ref a_p0_columnOf, .ref a_p0_neighbours, .ref a_p0_neighbourCount, .int (zi c_p0_size)])), (a_p0_rowOf, zI J 16 f_p0_rowOf), (a_p0_columnOf, zI J 16 f_p0_columnOf), (a_p0_neighbours, zI J 64 f_p0_neighbours), (a_p0_neighbourCount, zI J 16 f_p0_neighbourCount), (a_p1, .inr (0, [.ref a_p1_buckets, .ref a_p1_grades, .ref a_p1_heights, .ref a_p1_drawn, .int (zi c_p1_limit), .int (zi c_p1_hungSet), .int (zi c_p1_bucketSum), .int (zi c_p1_gradeSum)])), (a_p1_buckets, zI J 96 f_p1_buckets), (a_p1_grades, zI J 96 f_p1_grades), (a_p1_heights, zI J 16 f_p1_heights), (a_p1_drawn, zI J 16 f_p1_drawn)]) 1 (zc_X1_digit l D J F (a_t := a_t) (a_t_signs := a_t_signs) (c_t_length := c_t_length) (f_t_signs := f_t_signs) (p0 := (2 : Int))  q3 h4) dX1_build_8 gX1_build_X1_digit rfl rfl rfl (by decide +kernel) ⟨Nat.le_of_ble_eq_true rfl, Nat.le_of_ble_eq_true rfl⟩ ⟨Nat.le_of_ble_eq_true rfl, Nat.le_of_ble_eq_true rfl⟩ (z_spl_of [10, 11, 0, 1, 2, 3, 4, 5, 6, 7, 8, 9] rfl rfl) rfl rfl rfl rfl (Nat.le_of_ble_eq_true rfl) rfl (fun rv w9 hq => ?_)
  obtain ⟨rfl, rfl⟩ := hq
  refine z_ws [(a_p0, .inr (2, [.ref a_p0_rowOf, .ref a_p0_columnOf, .ref a_p0_neighbours, .ref a_p0_neighbourCount, .int (zi c_p0_size)])), (a_p0_rowOf, zI J 16 f_p0_rowOf), (a_p0_columnOf, zI J 16 f_p0_columnOf), (a_p0_neighbours, zI J 64 f_p0_neighbours), (a_p0_neighbourCount, zI J 16 f_p0_neighbourCount), (a_p1, .inr (0, [.ref a_p1_buckets, .ref a_p1_grades, .ref a_p1_heights, .ref a_p1_drawn, .int (zi c_p1_limit), .int (zi c_p1_hungSet), .int (zi c_p1_bucketSum), .int (zi c_p1_gradeSum)])), (a_p1_buckets, zI J 96 f_p1_buckets), (a_p1_grades, zI J 96 f_p1_grades), (a_p1_heights, zI J 16 f_p1_heights), (a_p1_drawn, zI J 16 f_p1_drawn), (a_t, .inr (1, [.ref a_t_signs, .int (zi c_t_length)])), (a_t_signs, zC J 120 f_t_signs)] rfl ?_
  obtain ⟨q5, h6, hsh⟩ := zbind hsh
  refine z_callV (pc' := 14) (C := RX2) (As := [.int (zi q1), .int (zi q3)]) (rest := []) (wr := [(a_p1, .inr (0, [.ref a_p1_buckets, .ref a_p1_grades, .ref a_p1_heights, .ref a_p1_drawn, .int (zi c_p1_limit), .int (zi c_p1_hungSet), .int (zi c_p1_bucketSum), .int (zi c_p1_gradeSum)])), (a_p1_buckets, zI J 96 f_p1_buckets), (a_p1_grades, zI J 96 f_p1_grades), (a_p1_heights, zI J 16 f_p1_heights), (a_p1_drawn, zI J 16 f_p1_drawn), (a_t, .inr (1, [.ref a_t_signs, .int (zi c_t_length)])), (a_t_signs, zC J 120 f_t_signs)]) 2 (zc_X2_shape l D J F (a_t := a_p0) (a_t_rowOf := a_p0_rowOf) (a_t_columnOf := a_p0_columnOf) (a_t_neighbours := a_p0_neighbours) (a_t_neighbourCount := a_p0_neighbourCount) (c_t_size := c_p0_size) (f_t_rowOf := f_p0_rowOf) (f_t_columnOf := f_p0_columnOf) (f_t_neighbours := f_p0_neighbours) (f_t_neighbourCount := f_p0_neighbourCount) (p0 := q1) (p1 := q3)  q5 h6) dX1_build_11 gX1_build_X2_shape rfl rfl rfl (by decide +kernel) ⟨Nat.le_of_ble_eq_true rfl, Nat.le_of_ble_eq_true rfl⟩ ⟨Nat.le_of_ble_eq_true rfl, Nat.le_of_ble_eq_true rfl⟩ (z_spl_of [0, 1, 2, 3, 4, 5, 6, 7, 8, 9, 10, 11] rfl rfl) rfl rfl rfl rfl (Nat.le_of_ble_eq_true rfl) rfl (fun rv w9 hq => ?_)
  obtain ⟨rfl, rfl⟩ := hq
  refine z_ws [(a_p1, .inr (0, [.ref a_p1_buckets, .ref a_p1_grades, .ref a_p1_heights, .ref a_p1_drawn, .int (zi c_p1_limit), .int (zi c_p1_hungSet), .int (zi c_p1_bucketSum), .int (zi c_p1_gradeSum)])), (a_p1_buckets, zI J 96 f_p1_buckets), (a_p1_grades, zI J 96 f_p1_grades), (a_p1_heights, zI J 16 f_p1_heights), (a_p1_drawn, zI J 16 f_p1_drawn), (a_t, .inr (1, [.ref a_t_signs, .int (zi c_t_length)])), (a_t_signs, zC J 120 f_t_signs), (a_p0, .inr (2, [.ref a_p0_rowOf, .ref a_p0_columnOf, .ref a_p0_neighbours, .ref a_p0_neighbourCount, .int (zi q5.1)])), (a_p0_rowOf, zI J 16 q5.2.1), (a_p0_columnOf, zI J 16 q5.2.2.1), (a_p0_neighbours, zI J 64 q5.2.2.2.1), (a_p0_neighbourCount, zI J 16 q5.2.2.2.2)] rfl ?_
  refine z_aload_n (pc' := 15) 2 dX1_build_14 rfl rfl rfl ?_
  refine z_aload_n (pc' := 16) 0 dX1_build_15 rfl rfl rfl ?_
  refine z_iconst (pc' := 17) dX1_build_16 rfl ?_
  obtain ⟨q7, h8, hsh⟩ := zbind hsh
  refine z_callV (pc' := 20) (C := RX1) (As := [.int (zi (3 : Int))]) (rest := [.ref a_p1]) (wr := [(a_p1, .inr (0, [.ref a_p1_buckets, .ref a_p1_grades, .ref a_p1_heights, .ref a_p1_drawn, .int (zi c_p1_limit), .int (zi c_p1_hungSet), .int (zi c_p1_bucketSum), .int (zi c_p1_gradeSum)])), (a_p1_buckets, zI J 96 f_p1_buckets), (a_p1_grades, zI J 96 f_p1_grades), (a_p1_heights, zI J 16 f_p1_heights), (a_p1_drawn, zI J 16 f_p1_drawn), (a_p0, .inr (2, [.ref a_p0_rowOf, .ref a_p0_columnOf, .ref a_p0_neighbours, .ref a_p0_neighbourCount, .int (zi q5.1)])), (a_p0_rowOf, zI J 16 q5.2.1), (a_p0_columnOf, zI J 16 q5.2.2.1), (a_p0_neighbours, zI J 64 q5.2.2.2.1), (a_p0_neighbourCount, zI J 16 q5.2.2.2.2)]) 1 (zc_X1_digit l D J F (a_t := a_t) (a_t_signs := a_t_signs) (c_t_length := c_t_length) (f_t_signs := f_t_signs) (p0 := (3 : Int))  q7 h8) dX1_build_17 gX1_build_X1_digit rfl rfl rfl (by decide +kernel) ⟨Nat.le_of_ble_eq_true rfl, Nat.le_of_ble_eq_true rfl⟩ ⟨Nat.le_of_ble_eq_true rfl, Nat.le_of_ble_eq_true rfl⟩ (z_spl_of [5, 6, 0, 1, 2, 3, 4, 7, 8, 9, 10, 11] rfl rfl) rfl rfl rfl rfl (Nat.le_of_ble_eq_true rfl) rfl (fun rv w9 hq => ?_)
  obtain ⟨rfl, rfl⟩ := hq
  refine z_ws [(a_p1, .inr (0, [.ref a_p1_buckets, .ref a_p1_grades, .ref a_p1_heights, .ref a_p1_drawn, .int (zi c_p1_limit), .int (zi c_p1_hungSet), .int (zi c_p1_bucketSum), .int (zi c_p1_gradeSum)])), (a_p1_buckets, zI J 96 f_p1_buckets), (a_p1_grades, zI J 96 f_p1_grades), (a_p1_heights, zI J 16 f_p1_heights), (a_p1_drawn, zI J 16 f_p1_drawn), (a_p0, .inr (2, [.ref a_p0_rowOf, .ref a_p0_columnOf, .ref a_p0_neighbours, .ref a_p0_neighbourCount, .int (zi q5.1)])), (a_p0_rowOf, zI J 16 q5.2.1), (a_p0_columnOf, zI J 16 q5.2.2.1), (a_p0_neighbours, zI J 64 q5.2.2.2.1), (a_p0_neighbourCount, zI J 16 q5.2.2.2.2), (a_t, .inr (1, [.ref a_t_signs, .int (zi c_t_length)])), (a_t_signs, zC J 120 f_t_signs)] rfl ?_
  obtain ⟨q9, h10, hsh⟩ := zbind hsh
  refine z_callV (pc' := 23) (C := RX0) (As := [.int (zi q7)]) (rest := []) (wr := [(a_p1_buckets, zI J 96 f_p1_buckets), (a_p1_grades, zI J 96 f_p1_grades), (a_p0, .inr (2, [.ref a_p0_rowOf, .ref a_p0_columnOf, .ref a_p0_neighbours, .ref a_p0_neighbourCount, .int (zi q5.1)])), (a_p0_rowOf, zI J 16 q5.2.1), (a_p0_columnOf, zI J 16 q5.2.2.1), (a_p0_neighbours, zI J 64 q5.2.2.2.1), (a_p0_neighbourCount, zI J 16 q5.2.2.2.2), (a_t, .inr (1, [.ref a_t_signs, .int (zi c_t_length)])), (a_t_signs, zC J 120 f_t_signs)]) 1 (zc_X0_clear l D J F (a_t := a_p1) (a_t_buckets := a_p1_buckets) (a_t_grades := a_p1_grades) (a_t_heights := a_p1_heights) (a_t_drawn := a_p1_drawn) (c_t_limit := c_p1_limit) (c_t_hungSet := c_p1_hungSet) (c_t_bucketSum := c_p1_bucketSum) (c_t_gradeSum := c_p1_gradeSum) (f_t_heights := f_p1_heights) (f_t_drawn := f_p1_drawn) (p0 := q7)  q9 h10) dX1_build_20 gX1_build_X0_clear rfl rfl rfl (by decide +kernel) ⟨Nat.le_of_ble_eq_true rfl, Nat.le_of_ble_eq_true rfl⟩ ⟨Nat.le_of_ble_eq_true rfl, Nat.le_of_ble_eq_true rfl⟩ (z_spl_of [0, 3, 4, 1, 2, 5, 6, 7, 8, 9, 10, 11] rfl rfl) rfl rfl rfl rfl (Nat.le_of_ble_eq_true rfl) rfl (fun rv w9 hq => ?_)
  obtain ⟨rfl, rfl⟩ := hq
  refine z_ws [(a_p1_buckets, zI J 96 f_p1_buckets), (a_p1_grades, zI J 96 f_p1_grades), (a_p0, .inr (2, [.ref a_p0_rowOf, .ref a_p0_columnOf, .ref a_p0_neighbours, .ref a_p0_neighbourCount, .int (zi q5.1)])), (a_p0_rowOf, zI J 16 q5.2.1), (a_p0_columnOf, zI J 16 q5.2.2.1), (a_p0_neighbours, zI J 64 q5.2.2.2.1), (a_p0_neighbourCount, zI J 16 q5.2.2.2.2), (a_t, .inr (1, [.ref a_t_signs, .int (zi c_t_length)])), (a_t_signs, zC J 120 f_t_signs), (a_p1, .inr (0, [.ref a_p1_buckets, .ref a_p1_grades, .ref a_p1_heights, .ref a_p1_drawn, .int (zi q9.1), .int (zi q9.2.1), .int (zi q9.2.2.1), .int (zi q9.2.2.2.1)])), (a_p1_heights, zI J 16 q9.2.2.2.2.1), (a_p1_drawn, zI J 16 q9.2.2.2.2.2)] rfl ?_
  refine z_iconst (pc' := 24) dX1_build_23 rfl ?_
  refine z_istore_n (pc' := 25) [(3, .int (zi (4 : Int))), (0, .ref a_t), (1, .ref a_p0), (2, .ref a_p1)] dX1_build_24 rfl (by decide) rfl rfl ?_
  refine z_iconst (pc' := 26) dX1_build_25 rfl ?_
  refine z_istore (pc' := 28) [(4, .int (zi (0 : Int))), (3, .int (zi (4 : Int))), (0, .ref a_t), (1, .ref a_p0), (2, .ref a_p1)] dX1_build_26 (by decide) rfl rfl ?_
  refine z_perm [(a_t, .inr (1, [.ref a_t_signs, .int (zi c_t_length)])), (a_t_signs, zC J 120 f_t_signs), (a_p0, .inr (2, [.ref a_p0_rowOf, .ref a_p0_columnOf, .ref a_p0_neighbours, .ref a_p0_neighbourCount, .int (zi q5.1)])), (a_p0_rowOf, zI J 16 q5.2.1), (a_p0_columnOf, zI J 16 q5.2.2.1), (a_p0_neighbours, zI J 64 q5.2.2.2.1), (a_p0_neighbourCount, zI J 16 q5.2.2.2.2), (a_p1, .inr (0, [.ref a_p1_buckets, .ref a_p1_grades, .ref a_p1_heights, .ref a_p1_drawn, .int (zi q9.1), .int (zi q9.2.1), .int (zi q9.2.2.1), .int (zi q9.2.2.2.1)])), (a_p1_buckets, zI J 96 f_p1_buckets), (a_p1_grades, zI J 96 f_p1_grades), (a_p1_heights, zI J 16 q9.2.2.2.2.1), (a_p1_drawn, zI J 16 q9.2.2.2.2.2)] [(0, .ref a_t), (1, .ref a_p0), (2, .ref a_p1), (3, .int (zi (4 : Int))), (4, .int (zi (0 : Int)))] [7, 8, 2, 3, 4, 5, 6, 9, 0, 1, 10, 11] [2, 3, 4, 1, 0] rfl rfl rfl ?_
  refine zl_X1_build_L28 (F := F) (hk := fun v29 v30 v31 v32 v33 hsh => ?_) _ _ _ _ _ _ hsh
  cases hsh
  exact z_vret rfl dX1_build_52 ⟨rfl, rfl⟩
def sh_X1_clear (F : Nat) (c_t_length : Int) : Option (Int × Int) := some (c_t_length, (0 : Int))
theorem mX1_clear_f15 : Cond.fieldLink RX1 15 (TX1 1).1 (TX1 1).2.1 (TX1 1).2.2.1 ∈ wsX1_clear := List.mem_of_getElem? (i := 1) rfl
theorem iX1_clear_X1 : ∀ w ∈ wsX10, w ∈ wsX1_clear := fun _ h => (List.mem_cons_of_mem _ (List.mem_append_right _ h))
set_option maxRecDepth 100000 in
set_option maxHeartbeats 4000000 in
theorem zc_X1_clear (l : Launch) (D : va_G) (J : Nat → ClassId) (F : Nat) (a_t : Nat) (a_t_signs : Nat) (c_t_length : Int) (res : Int × Int) (hsh : sh_X1_clear F c_t_length = some res) : ZM l D J yX1_clear wsX1_clear ({ frames := 0, cells := 0, slots := 0, locals := 0 } : Room) 0 0 [.ref a_t] [(a_t, .inr (1, [.ref a_t_signs, .int (zi c_t_length)]))] (fun rv w9 => rv = some (.int (zi res.1)) ∧ w9 = [(a_t, .inr (1, [.ref a_t_signs, .int (zi res.2)]))]) := by
  refine z_ofZ (cc := cX1_clear) (maxL := 2) (ret := (some .int)) 0 0 (by decide) rfl (Nat.le_of_ble_eq_true rfl) [(0, .ref a_t)] rfl ?_
  intro p e s m args below meth c A
  unfold sh_X1_clear at hsh
  refine z_aload_n (pc' := 1) 0 dX1_clear_0 rfl rfl rfl ?_
  refine z_getfield (pc' := 4) (C := RX1) (T := TX1) (N := 2) 0 1 dX1_clear_1 iX1_clear_X1 rfl rfl (by decide) mX1_clear_f15 rfl rfl ?_
  refine z_istore_n (pc' := 5) [(1, .int (zi c_t_length)), (0, .ref a_t)] dX1_clear_4 rfl (by decide) rfl rfl ?_
  refine z_aload_n (pc' := 6) 1 dX1_clear_5 rfl rfl rfl ?_
  refine z_iconst (pc' := 7) dX1_clear_6 rfl ?_
  refine z_putfield (pc' := 10) (C := RX1) (T := TX1) (N := 2) (ty := .int) 0 1 [(a_t, .inr (1, [.ref a_t_signs, .int (zi (0 : Int))]))] tyX1 tyX1_ok nmX1 dX1_clear_7 iX1_clear_X1 rfl rfl (by decide) mX1_clear_f15 rfl (by decide +kernel) rfl rfl (Nat.le_of_ble_eq_true rfl) rfl rfl rfl ?_
  refine z_iload_n (pc' := 11) 0 dX1_clear_10 rfl rfl rfl ?_
  cases hsh
  exact z_iret rfl dX1_clear_11 ⟨rfl, rfl⟩
def sh_X1_init (F : Nat) : Option (Unit) := some (())
theorem mX1_init_oi : Cond.methodLink RX1 3 objectInit ∈ wsX1_init := List.mem_of_getElem? (i := 1) rfl
theorem mX1_init_oim : Cond.instanceMethod objectInit ∈ wsX1_init := List.mem_of_getElem? (i := 2) rfl
theorem mX1_init_oic : Cond.code objectInit ⟨#[0xb1]⟩ 1 none ∈ wsX1_init := List.mem_of_getElem? (i := 3) rfl
theorem mX1_init_achar : Cond.arrayClass .char ∈ wsX1_init := List.mem_of_getElem? (i := 4) rfl
theorem mX1_init_f9 : Cond.fieldLink RX1 9 (TX1 0).1 (TX1 0).2.1 (TX1 0).2.2.1 ∈ wsX1_init := List.mem_of_getElem? (i := 5) rfl
theorem iX1_init_X1 : ∀ w ∈ wsX10, w ∈ wsX1_init := fun _ h => (List.mem_cons_of_mem _ (List.mem_append_right _ h))
set_option maxRecDepth 100000 in
set_option maxHeartbeats 4000000 in
theorem zc_X1_init (l : Launch) (D : va_G) (J : Nat → ClassId) (F : Nat) (a_t : Nat) (res : Unit) (hsh : sh_X1_init F = some res) : ZM l D J yX1_init wsX1_init ({ frames := 1, cells := 1, slots := 120, locals := 20 } : Room) 1 120 [.ref a_t] [(a_t, .inr (1, [.null, .int (zi (0 : Int))]))] (fun rv w9 => rv = none ∧ ∃ a_t_signs : Nat, w9 = [(a_t, .inr (1, [.ref a_t_signs, .int (zi (0 : Int))])), (a_t_signs, zC J 120 (fun _ => 0))]) := by
  refine z_ofZ (cc := cX1_init) (maxL := 1) (ret := none) 1 120 (by decide) rfl (Nat.le_of_ble_eq_true rfl) [(0, .ref a_t)] rfl ?_
  intro p e s m args below meth c A
  unfold sh_X1_init at hsh
  refine z_aload_n (pc' := 1) 0 dX1_init_0 rfl rfl rfl ?_
  refine z_objInit (pc' := 4) dX1_init_1 mX1_init_oi mX1_init_oim mX1_init_oic (Nat.le_of_ble_eq_true rfl) (Nat.le_of_ble_eq_true rfl) rfl ?_
  refine z_aload_n (pc' := 5) 0 dX1_init_4 rfl rfl rfl ?_
  refine z_bipush (pc' := 7) dX1_init_5 (by decide) rfl ?_
  refine z_newarr_char (pc' := 9) 120 1 120 dX1_init_7 mX1_init_achar rfl (by decide) rfl rfl (Nat.le_of_ble_eq_true rfl) (Nat.le_of_ble_eq_true rfl) rfl (fun b1 => ?_)
  refine z_ws [(a_t, .inr (1, [.null, .int (zi (0 : Int))])), (b1, zC J 120 (fun _ => 0))] rfl ?_
  refine z_putfin (pc' := 12) (C := RX1) (T := TX1) (N := 2) (ty := tyX1 0) 0 0 [(a_t, .inr (1, [.ref b1, .int (zi (0 : Int))])), (b1, zC J 120 (fun _ => 0))] tyX1 tyX1_ok nmX1 dX1_init_9 iX1_init_X1 rfl rfl (by decide) mX1_init_f9 rfl rfl rfl (tyX1_ok 0 (by decide)) rfl rfl (Nat.le_of_ble_eq_true rfl) rfl rfl ?_
  cases hsh
  exact z_vret rfl dX1_init_12 ⟨rfl, b1, rfl⟩
