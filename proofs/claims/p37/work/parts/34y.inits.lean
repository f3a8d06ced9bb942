theorem zst_up (ad : Nat → Nat × Nat × Nat × Nat × Nat) (k : Nat) (a : Nat × Nat × Nat × Nat × Nat) : (fun j => if j < k + 1 then some (va_up ad k a j).1 else none) = va_up (fun j => if j < k then some (ad j).1 else none) ((k : Int)).toNat (some a.1) := by
  funext j; unfold va_up; rw [show ((k : Int)).toNat = k from Int.toNat_natCast k]
  by_cases h : j = k
  · subst h; rw [if_pos (Nat.lt_succ_self _), if_pos rfl, if_pos rfl]
  · rw [if_neg h, if_neg h]
    show _ = if j < k then some (ad j).1 else none
    by_cases h2 : j < k
    · rw [if_pos h2, if_pos (by omega)]
    · rw [if_neg h2, if_neg (by omega)]
theorem zpl_up {J : Nat → ClassId} (ad : Nat → Nat × Nat × Nat × Nat × Nat) (k : Nat) (a : Nat × Nat × Nat × Nat × Nat) : zplo J (va_up ad k a) (fun _ => zC0) (List.range (k + 1)) = zplo J ad (fun _ => zC0) (List.range k) ++ zcv J a zC0 := by
  unfold zplo
  rw [List.range_succ, List.flatMap_append, List.flatMap_singleton]
  congr 1
  · have : ∀ l : List Nat, k ∉ l → l.flatMap (fun j => zcv J (va_up ad k a j) zC0) = l.flatMap (fun j => zcv J (ad j) zC0) := by
      intro l; induction l with
      | nil => intro _; rfl
      | cons b l ih =>
        intro h
        rw [List.flatMap_cons, List.flatMap_cons, ih (fun q => h (List.mem_cons_of_mem _ q))]
        have : va_up ad k a b = ad b := by unfold va_up; rw [if_neg (fun q => h (by rw [← q]; exact List.mem_cons_self))]
        rw [this]
    exact this _ (by simp)
  · show zcv J (va_up ad k a k) zC0 = _
    unfold va_up; rw [if_pos rfl]
def sh_X4_init (F : Nat) : Option Unit := some ()
theorem mX4_init_oi : Cond.methodLink RX4 3 objectInit ∈ wsX4_init := List.mem_of_getElem? (i := 1) rfl
theorem mX4_init_oim : Cond.instanceMethod objectInit ∈ wsX4_init := List.mem_of_getElem? (i := 2) rfl
theorem mX4_init_oic : Cond.code objectInit ⟨#[0xb1]⟩ 1 none ∈ wsX4_init := List.mem_of_getElem? (i := 3) rfl
theorem mX4_init_c9 : Cond.classLink RX4 9 RX0 ∈ wsX4_init := List.mem_of_getElem? (i := 4) rfl
theorem mX4_init_nX0 : Cond.instantiable RX0 8 ∈ wsX4_init := List.mem_of_getElem? (i := 6) rfl
theorem mX4_init_iX0 : Cond.initialized RX0 ∈ wsX4_init := List.mem_of_getElem? (i := 7) rfl
theorem mX4_init_imX0 : Cond.instanceMethod yX0_init ∈ wsX4_init := List.mem_of_getElem? (i := 8) rfl
theorem mX4_init_f11 : Cond.fieldLink RX4 11 (TX4 0).1 (TX4 0).2.1 (TX4 0).2.2.1 ∈ wsX4_init := List.mem_of_getElem? (i := 5) rfl
theorem iX4_init_X4 : ∀ w ∈ wsX40, w ∈ wsX4_init := fun _ h => (List.mem_cons_of_mem _ (List.mem_append_left _ (List.mem_append_right _ h)))
theorem iX4_init_X0 : ∀ w ∈ wsX00, w ∈ wsX4_init := fun _ h => (List.mem_cons_of_mem _ (List.mem_append_right _ h))
theorem mX4_init_c9s : Cond.classLink RX4 9 "CaveDraw$Cave" ∈ wsX4_init := mX4_init_c9
set_option maxRecDepth 100000 in
set_option maxHeartbeats 4000000 in
theorem zl_X4_init {p : Program} {l : Launch} {e : Env} {s : State} {m : MethodId} {args : Array Value} {below : List Frame} {meth : Method} {c : Code} {A : Nat → Prop} {D : va_G} {J : Nat → ClassId} (F : Nat) {a_t b1 : Nat} : ∀ (n k : Nat) (ad : Nat → Nat × Nat × Nat × Nat × Nat) (cs ss : Nat), k + n = 14 → cs = 1 + 5 * k → ss = 14 + 232 * k → Z p l e ({ frames := 3, cells := 71, slots := 3262, locals := 80 } : Room) s m args below meth c (MQ below (zQ D J A (fun rv w9 => rv = none ∧ ∃ a_t_states : Nat, ∃ ad : Nat → Nat × Nat × Nat × Nat × Nat, w9 = ((a_t, .inr (4, [.ref a_t_states, .int (zi (0 : Int)), .int (zi (0 : Int))])) :: (a_t_states, zV J 14 (fun j => if j < 14 then some (ad j).1 else none)) :: (zplo J ad (fun _ => zC0) (List.range 14))))) args s 71 3262 A) cX4_init 2 wsX4_init RX4 D J A none (yX4_init.name, []) cs ss ([(a_t, .inr (4, [.ref b1, .int (zi (0 : Int)), .int (zi (0 : Int))])), (b1, zV J 14 (fun j => if j < k then some (ad j).1 else none))] ++ (zplo J ad (fun _ => zC0) (List.range k))) [(0, .ref a_t), (1, .int (zi (k : Int)))] 15 [] := by
  intro n
  induction n with
  | zero =>
    intro k ad cs ss hk hc hs
    obtain rfl : k = 14 := by omega
    obtain rfl : cs = 71 := by omega
    obtain rfl : ss = 3262 := by omega
    refine z_iload_n (pc' := 16) 1 dX4_init_15 rfl rfl rfl ?_
    refine z_bipush (pc' := 18) dX4_init_16 (by decide) rfl ?_
    refine z_icmp_ge (pc' := 21) (tgt := 40) dX4_init_18 (by decide) (by decide) (by decide) rfl (fun q => ?_) (fun q => ?_)
    · exact z_vret rfl dX4_init_40 ⟨rfl, b1, ad, rfl⟩
    · exact absurd q (by decide)
  | succ n ih =>
    intro k ad cs ss hk hc hs
    have gk : 0 ≤ (k : Int) ∧ (k : Int) < ((14 : Nat) : Int) := by omega
    have gr : -2147483648 ≤ (k : Int) ∧ (k : Int) ≤ 2147483647 := by omega
    refine z_iload_n (pc' := 16) 1 dX4_init_15 rfl rfl rfl ?_
    refine z_bipush (pc' := 18) dX4_init_16 (by decide) rfl ?_
    refine z_icmp_ge (pc' := 21) (tgt := 40) dX4_init_18 (by decide) gr (by decide) rfl (fun q => ?_) (fun q => ?_)
    · exact absurd gk.2 q
    · refine z_aload_n (pc' := 22) 0 dX4_init_21 rfl rfl rfl ?_
      refine z_getfield (pc' := 25) (C := RX4) (T := TX4) (N := 3) 0 0 dX4_init_22 iX4_init_X4 rfl rfl (by decide) mX4_init_f11 rfl rfl ?_
      refine z_iload_n (pc' := 26) 1 dX4_init_25 rfl rfl rfl ?_
      refine z_new (pc' := 29) (ci := 0) (C := RX0) (T := TX0) (N := 8) [.null, .null, .null, .null, .int (zi (0 : Int)), .int (zi (0 : Int)), .int (zi (0 : Int)), .int (zi (0 : Int))] (cs + 1) (ss + 8) tyX0 tyX0_ok dX4_init_26 iX4_init_X0 mX4_init_c9 mX4_init_nX0 mX4_init_iX0 rfl (by decide +kernel) rfl rfl (by dsimp only; omega) (by dsimp only; omega) rfl (fun b => ?_)
      refine z_dup (pc' := 30) dX4_init_29 rfl rfl ?_
      refine z_swapT (a := [(a_t, .inr (4, [.ref b1, .int (zi (0 : Int)), .int (zi (0 : Int))])), (b1, zV J 14 (fun j => if j < k then some (ad j).1 else none))]) (T := (zplo J ad (fun _ => zC0) (List.range k))) (b := [(b, .inr (0, [.null, .null, .null, .null, .int (zi (0 : Int)), .int (zi (0 : Int)), .int (zi (0 : Int)), .int (zi (0 : Int))]))]) ?_
      refine z_callIN (pc' := 33) (As := []) (rest := [.ref b, .int (zi (k : Int)), .ref b1]) (wr := ([(a_t, .inr (4, [.ref b1, .int (zi (0 : Int)), .int (zi (0 : Int))])), (b1, zV J 14 (fun j => if j < k then some (ad j).1 else none))] ++ (zplo J ad (fun _ => zC0) (List.range k)))) 0 (zc_X0_init l D J F b () rfl) dX4_init_30 gX4_init_X0_init_n17 rfl rfl rfl mX4_init_iX0 "CaveDraw" (by decide) mX4_init_imX0 rfl (by decide +kernel) ⟨Nat.le_of_ble_eq_true rfl, Nat.le_of_ble_eq_true rfl⟩ ⟨by dsimp only; omega, by dsimp only; omega⟩ (z_spl_T1 (X := ([(a_t, .inr (4, [.ref b1, .int (zi (0 : Int)), .int (zi (0 : Int))])), (b1, zV J 14 (fun j => if j < k then some (ad j).1 else none))] ++ [(b, .inr (0, [.null, .null, .null, .null, .int (zi (0 : Int)), .int (zi (0 : Int)), .int (zi (0 : Int)), .int (zi (0 : Int))]))])) (T := (zplo J ad (fun _ => zC0) (List.range k))) (wc := [(b, .inr (0, [.null, .null, .null, .null, .int (zi (0 : Int)), .int (zi (0 : Int)), .int (zi (0 : Int)), .int (zi (0 : Int))]))]) (wr := [(a_t, .inr (4, [.ref b1, .int (zi (0 : Int)), .int (zi (0 : Int))])), (b1, zV J 14 (fun j => if j < k then some (ad j).1 else none))]) (z_spl_of [2, 0, 1] rfl rfl)) rfl rfl (Nat.le_of_ble_eq_true rfl) rfl (fun rv w9 hq => ?_)
      obtain ⟨rfl, c1, c2, c3, c4, rfl⟩ := hq
      refine z_swapT (a := [(a_t, .inr (4, [.ref b1, .int (zi (0 : Int)), .int (zi (0 : Int))])), (b1, zV J 14 (fun j => if j < k then some (ad j).1 else none))]) (T := (zplo J ad (fun _ => zC0) (List.range k))) (b := [(b, .inr (0, [.ref c1, .ref c2, .ref c3, .ref c4, .int (zi (0 : Int)), .int (zi (0 : Int)), .int (zi (0 : Int)), .int (zi (0 : Int))])), (c1, zI J 96 (fun _ => 0)), (c2, zI J 96 (fun _ => 0)), (c3, zI J 16 (fun _ => 0)), (c4, zI J 16 (fun _ => 0))]) ?_
      refine z_aastore (pc' := 34) 1 2 (([(a_t, .inr (4, [.ref b1, .int (zi (0 : Int)), .int (zi (0 : Int))])), (b1, zV J 14 (va_up (fun j => if j < k then some (ad j).1 else none) ((k : Int)).toNat (some b)))] ++ [(b, .inr (0, [.ref c1, .ref c2, .ref c3, .ref c4, .int (zi (0 : Int)), .int (zi (0 : Int)), .int (zi (0 : Int)), .int (zi (0 : Int))])), (c1, zI J 96 (fun _ => 0)), (c2, zI J 96 (fun _ => 0)), (c3, zI J 16 (fun _ => 0)), (c4, zI J 16 (fun _ => 0))]) ++ (zplo J ad (fun _ => zC0) (List.range k))) dX4_init_33 rfl rfl (by decide) gk rfl rfl ?_
      refine z_iinc (pc' := 37) [(1, .int (zi ((k : Int) + 1))), (0, .ref a_t)] 1 dX4_init_34 rfl (by decide) rfl rfl ?_
      refine z_goto (tgt := 15) dX4_init_37 (by decide) ?_
      refine z_permT (X := ([(a_t, .inr (4, [.ref b1, .int (zi (0 : Int)), .int (zi (0 : Int))])), (b1, zV J 14 (va_up (fun j => if j < k then some (ad j).1 else none) ((k : Int)).toNat (some b)))] ++ [(b, .inr (0, [.ref c1, .ref c2, .ref c3, .ref c4, .int (zi (0 : Int)), .int (zi (0 : Int)), .int (zi (0 : Int)), .int (zi (0 : Int))])), (c1, zI J 96 (fun _ => 0)), (c2, zI J 96 (fun _ => 0)), (c3, zI J 16 (fun _ => 0)), (c4, zI J 16 (fun _ => 0))])) (T := (zplo J ad (fun _ => zC0) (List.range k))) ([(a_t, .inr (4, [.ref b1, .int (zi (0 : Int)), .int (zi (0 : Int))])), (b1, zV J 14 (va_up (fun j => if j < k then some (ad j).1 else none) ((k : Int)).toNat (some b)))] ++ [(b, .inr (0, [.ref c1, .ref c2, .ref c3, .ref c4, .int (zi (0 : Int)), .int (zi (0 : Int)), .int (zi (0 : Int)), .int (zi (0 : Int))])), (c1, zI J 96 (fun _ => 0)), (c2, zI J 96 (fun _ => 0)), (c3, zI J 16 (fun _ => 0)), (c4, zI J 16 (fun _ => 0))]) [(0, .ref a_t), (1, .int (zi ((k : Int) + 1)))] [0, 1, 2, 3, 4, 5, 6] [1, 0] rfl rfl rfl ?_
      refine z_swapT2 (a := [(a_t, .inr (4, [.ref b1, .int (zi (0 : Int)), .int (zi (0 : Int))])), (b1, zV J 14 (va_up (fun j => if j < k then some (ad j).1 else none) ((k : Int)).toNat (some b)))]) (b := [(b, .inr (0, [.ref c1, .ref c2, .ref c3, .ref c4, .int (zi (0 : Int)), .int (zi (0 : Int)), .int (zi (0 : Int)), .int (zi (0 : Int))])), (c1, zI J 96 (fun _ => 0)), (c2, zI J 96 (fun _ => 0)), (c3, zI J 16 (fun _ => 0)), (c4, zI J 16 (fun _ => 0))]) (T := (zplo J ad (fun _ => zC0) (List.range k))) ?_
      refine z_ws ([(a_t, .inr (4, [.ref b1, .int (zi (0 : Int)), .int (zi (0 : Int))])), (b1, zV J 14 (fun j => if j < k + 1 then some (va_up ad k (b, c1, c2, c3, c4) j).1 else none))] ++ zplo J (va_up ad k (b, c1, c2, c3, c4)) (fun _ => zC0) (List.range (k + 1))) (by rw [zst_up ad k (b, c1, c2, c3, c4), zpl_up ad k (b, c1, c2, c3, c4)]; rfl) ?_
      exact ih (k + 1) (va_up ad k (b, c1, c2, c3, c4)) _ _ (by omega) (by omega) (by omega)
set_option maxRecDepth 100000 in
set_option maxHeartbeats 4000000 in
theorem zc_X4_init (l : Launch) (D : va_G) (J : Nat → ClassId) (F : Nat) (a_t : Nat) (res : Unit) (hsh : sh_X4_init F = some res) : ZM l D J yX4_init wsX4_init ({ frames := 3, cells := 71, slots := 3262, locals := 80 } : Room) 71 3262 [.ref a_t] [(a_t, .inr (4, [.null, .int (zi (0 : Int)), .int (zi (0 : Int))]))] (fun rv w9 => rv = none ∧ ∃ a_t_states : Nat, ∃ ad : Nat → Nat × Nat × Nat × Nat × Nat, w9 = ((a_t, .inr (4, [.ref a_t_states, .int (zi (0 : Int)), .int (zi (0 : Int))])) :: (a_t_states, zV J 14 (fun j => if j < 14 then some (ad j).1 else none)) :: (zplo J ad (fun _ => zC0) (List.range 14)))) := by
  refine z_ofZ (cc := cX4_init) (maxL := 2) (ret := none) 71 3262 (by decide) rfl (Nat.le_of_ble_eq_true rfl) [(0, .ref a_t)] rfl ?_
  intro p e s m args below meth c A
  refine z_aload_n (pc' := 1) 0 dX4_init_0 rfl rfl rfl ?_
  refine z_objInit (pc' := 4) dX4_init_1 mX4_init_oi mX4_init_oim mX4_init_oic (Nat.le_of_ble_eq_true rfl) (Nat.le_of_ble_eq_true rfl) rfl ?_
  refine z_aload_n (pc' := 5) 0 dX4_init_4 rfl rfl rfl ?_
  refine z_bipush (pc' := 7) dX4_init_5 (by decide) rfl ?_
  refine z_anewarr (pc' := 10) 14 1 14 dX4_init_7 mX4_init_c9s rfl (by decide) rfl rfl (Nat.le_of_ble_eq_true rfl) (Nat.le_of_ble_eq_true rfl) rfl (fun b1 => ?_)
  refine z_ws [(a_t, .inr (4, [.null, .int (zi (0 : Int)), .int (zi (0 : Int))])), (b1, zV J 14 (fun _ => none))] rfl ?_
  refine z_putfin (pc' := 13) (C := RX4) (T := TX4) (N := 3) (ty := tyX4 0) 0 0 [(a_t, .inr (4, [.ref b1, .int (zi (0 : Int)), .int (zi (0 : Int))])), (b1, zV J 14 (fun _ => none))] tyX4 tyX4_ok nmX4 dX4_init_10 iX4_init_X4 rfl rfl (by decide) mX4_init_f11 rfl rfl rfl (tyX4_ok 0 (by decide)) rfl rfl (Nat.le_of_ble_eq_true rfl) rfl rfl ?_
  refine z_iconst (pc' := 14) dX4_init_13 rfl ?_
  refine z_istore_n (pc' := 15) [(1, .int (zi (0 : Int))), (0, .ref a_t)] dX4_init_14 rfl (by decide) rfl rfl ?_
  refine z_perm [(a_t, .inr (4, [.ref b1, .int (zi (0 : Int)), .int (zi (0 : Int))])), (b1, zV J 14 (fun _ => none))] [(0, .ref a_t), (1, .int (zi (0 : Int)))] [0, 1] [1, 0] rfl rfl rfl ?_
  exact zl_X4_init F 14 0 (fun _ => (0, 0, 0, 0, 0)) 1 14 rfl rfl rfl
def sh_X7_init (F : Nat) : Option Unit := some ()
theorem mX7_init_oi : Cond.methodLink RX7 3 objectInit ∈ wsX7_init := List.mem_of_getElem? (i := 1) rfl
theorem mX7_init_oim : Cond.instanceMethod objectInit ∈ wsX7_init := List.mem_of_getElem? (i := 2) rfl
theorem mX7_init_oic : Cond.code objectInit ⟨#[0xb1]⟩ 1 none ∈ wsX7_init := List.mem_of_getElem? (i := 3) rfl
theorem mX7_init_c9 : Cond.classLink RX7 9 RX0 ∈ wsX7_init := List.mem_of_getElem? (i := 4) rfl
theorem mX7_init_nX0 : Cond.instantiable RX0 8 ∈ wsX7_init := List.mem_of_getElem? (i := 8) rfl
theorem mX7_init_iX0 : Cond.initialized RX0 ∈ wsX7_init := List.mem_of_getElem? (i := 9) rfl
theorem mX7_init_imX0 : Cond.instanceMethod yX0_init ∈ wsX7_init := List.mem_of_getElem? (i := 10) rfl
theorem mX7_init_f11 : Cond.fieldLink RX7 11 (TX7 0).1 (TX7 0).2.1 (TX7 0).2.2.1 ∈ wsX7_init := List.mem_of_getElem? (i := 5) rfl
theorem iX7_init_X7 : ∀ w ∈ wsX70, w ∈ wsX7_init := fun _ h => (List.mem_cons_of_mem _ (List.mem_append_left _ (List.mem_append_right _ h)))
theorem iX7_init_X0 : ∀ w ∈ wsX00, w ∈ wsX7_init := fun _ h => (List.mem_cons_of_mem _ (List.mem_append_right _ h))
theorem mX7_init_f17 : Cond.fieldLink RX7 17 (TX7 1).1 (TX7 1).2.1 (TX7 1).2.2.1 ∈ wsX7_init := List.mem_of_getElem? (i := 7) rfl
theorem mX7_init_aboolean : Cond.arrayClass .boolean ∈ wsX7_init := List.mem_of_getElem? (i := 6) rfl
theorem mX7_init_c9s : Cond.classLink RX7 9 "CaveDraw$Cave" ∈ wsX7_init := mX7_init_c9
set_option maxRecDepth 100000 in
set_option maxHeartbeats 4000000 in
theorem zl_X7_init {p : Program} {l : Launch} {e : Env} {s : State} {m : MethodId} {args : Array Value} {below : List Frame} {meth : Method} {c : Code} {A : Nat → Prop} {D : va_G} {J : Nat → ClassId} (F : Nat) {a_t b1 : Nat} {b2 : Nat} : ∀ (n k : Nat) (ad : Nat → Nat × Nat × Nat × Nat × Nat) (cs ss : Nat), k + n = 2 → cs = 2 + 5 * k → ss = 4 + 232 * k → Z p l e ({ frames := 3, cells := 12, slots := 468, locals := 80 } : Room) s m args below meth c (MQ below (zQ D J A (fun rv w9 => rv = none ∧ ∃ a_t_states a_t_filled : Nat, ∃ ad : Nat → Nat × Nat × Nat × Nat × Nat, w9 = ((a_t, .inr (6, [.ref a_t_states, .ref a_t_filled])) :: (a_t_states, zV J 2 (fun j => if j < 2 then some (ad j).1 else none)) :: (a_t_filled, zB J 2 (fun _ => 0)) :: (zplo J ad (fun _ => zC0) (List.range 2))))) args s 12 468 A) cX7_init 2 wsX7_init RX7 D J A none (yX7_init.name, []) cs ss ([(a_t, .inr (6, [.ref b1, .ref b2])), (b1, zV J 2 (fun j => if j < k then some (ad j).1 else none)), (b2, zB J 2 (fun _ => 0))] ++ (zplo J ad (fun _ => zC0) (List.range k))) [(0, .ref a_t), (1, .int (zi (k : Int)))] 21 [] := by
  intro n
  induction n with
  | zero =>
    intro k ad cs ss hk hc hs
    obtain rfl : k = 2 := by omega
    obtain rfl : cs = 12 := by omega
    obtain rfl : ss = 468 := by omega
    refine z_iload_n (pc' := 22) 1 dX7_init_21 rfl rfl rfl ?_
    refine z_iconst (pc' := 23) dX7_init_22 rfl ?_
    refine z_icmp_ge (pc' := 26) (tgt := 45) dX7_init_23 (by decide) (by decide) (by decide) rfl (fun q => ?_) (fun q => ?_)
    · exact z_vret rfl dX7_init_45 ⟨rfl, b1, b2, ad, rfl⟩
    · exact absurd q (by decide)
  | succ n ih =>
    intro k ad cs ss hk hc hs
    have gk : 0 ≤ (k : Int) ∧ (k : Int) < ((2 : Nat) : Int) := by omega
    have gr : -2147483648 ≤ (k : Int) ∧ (k : Int) ≤ 2147483647 := by omega
    refine z_iload_n (pc' := 22) 1 dX7_init_21 rfl rfl rfl ?_
    refine z_iconst (pc' := 23) dX7_init_22 rfl ?_
    refine z_icmp_ge (pc' := 26) (tgt := 45) dX7_init_23 (by decide) gr (by decide) rfl (fun q => ?_) (fun q => ?_)
    · exact absurd gk.2 q
    · refine z_aload_n (pc' := 27) 0 dX7_init_26 rfl rfl rfl ?_
      refine z_getfield (pc' := 30) (C := RX7) (T := TX7) (N := 2) 0 0 dX7_init_27 iX7_init_X7 rfl rfl (by decide) mX7_init_f11 rfl rfl ?_
      refine z_iload_n (pc' := 31) 1 dX7_init_30 rfl rfl rfl ?_
      refine z_new (pc' := 34) (ci := 0) (C := RX0) (T := TX0) (N := 8) [.null, .null, .null, .null, .int (zi (0 : Int)), .int (zi (0 : Int)), .int (zi (0 : Int)), .int (zi (0 : Int))] (cs + 1) (ss + 8) tyX0 tyX0_ok dX7_init_31 iX7_init_X0 mX7_init_c9 mX7_init_nX0 mX7_init_iX0 rfl (by decide +kernel) rfl rfl (by dsimp only; omega) (by dsimp only; omega) rfl (fun b => ?_)
      refine z_dup (pc' := 35) dX7_init_34 rfl rfl ?_
      refine z_swapT (a := [(a_t, .inr (6, [.ref b1, .ref b2])), (b1, zV J 2 (fun j => if j < k then some (ad j).1 else none)), (b2, zB J 2 (fun _ => 0))]) (T := (zplo J ad (fun _ => zC0) (List.range k))) (b := [(b, .inr (0, [.null, .null, .null, .null, .int (zi (0 : Int)), .int (zi (0 : Int)), .int (zi (0 : Int)), .int (zi (0 : Int))]))]) ?_
      refine z_callIN (pc' := 38) (As := []) (rest := [.ref b, .int (zi (k : Int)), .ref b1]) (wr := ([(a_t, .inr (6, [.ref b1, .ref b2])), (b1, zV J 2 (fun j => if j < k then some (ad j).1 else none)), (b2, zB J 2 (fun _ => 0))] ++ (zplo J ad (fun _ => zC0) (List.range k)))) 0 (zc_X0_init l D J F b () rfl) dX7_init_35 gX7_init_X0_init_n21 rfl rfl rfl mX7_init_iX0 "CaveDraw" (by decide) mX7_init_imX0 rfl (by decide +kernel) ⟨Nat.le_of_ble_eq_true rfl, Nat.le_of_ble_eq_true rfl⟩ ⟨by dsimp only; omega, by dsimp only; omega⟩ (z_spl_T1 (X := ([(a_t, .inr (6, [.ref b1, .ref b2])), (b1, zV J 2 (fun j => if j < k then some (ad j).1 else none)), (b2, zB J 2 (fun _ => 0))] ++ [(b, .inr (0, [.null, .null, .null, .null, .int (zi (0 : Int)), .int (zi (0 : Int)), .int (zi (0 : Int)), .int (zi (0 : Int))]))])) (T := (zplo J ad (fun _ => zC0) (List.range k))) (wc := [(b, .inr (0, [.null, .null, .null, .null, .int (zi (0 : Int)), .int (zi (0 : Int)), .int (zi (0 : Int)), .int (zi (0 : Int))]))]) (wr := [(a_t, .inr (6, [.ref b1, .ref b2])), (b1, zV J 2 (fun j => if j < k then some (ad j).1 else none)), (b2, zB J 2 (fun _ => 0))]) (z_spl_of [3, 0, 1, 2] rfl rfl)) rfl rfl (Nat.le_of_ble_eq_true rfl) rfl (fun rv w9 hq => ?_)
      obtain ⟨rfl, c1, c2, c3, c4, rfl⟩ := hq
      refine z_swapT (a := [(a_t, .inr (6, [.ref b1, .ref b2])), (b1, zV J 2 (fun j => if j < k then some (ad j).1 else none)), (b2, zB J 2 (fun _ => 0))]) (T := (zplo J ad (fun _ => zC0) (List.range k))) (b := [(b, .inr (0, [.ref c1, .ref c2, .ref c3, .ref c4, .int (zi (0 : Int)), .int (zi (0 : Int)), .int (zi (0 : Int)), .int (zi (0 : Int))])), (c1, zI J 96 (fun _ => 0)), (c2, zI J 96 (fun _ => 0)), (c3, zI J 16 (fun _ => 0)), (c4, zI J 16 (fun _ => 0))]) ?_
      refine z_aastore (pc' := 39) 1 3 (([(a_t, .inr (6, [.ref b1, .ref b2])), (b1, zV J 2 (va_up (fun j => if j < k then some (ad j).1 else none) ((k : Int)).toNat (some b))), (b2, zB J 2 (fun _ => 0))] ++ [(b, .inr (0, [.ref c1, .ref c2, .ref c3, .ref c4, .int (zi (0 : Int)), .int (zi (0 : Int)), .int (zi (0 : Int)), .int (zi (0 : Int))])), (c1, zI J 96 (fun _ => 0)), (c2, zI J 96 (fun _ => 0)), (c3, zI J 16 (fun _ => 0)), (c4, zI J 16 (fun _ => 0))]) ++ (zplo J ad (fun _ => zC0) (List.range k))) dX7_init_38 rfl rfl (by decide) gk rfl rfl ?_
      refine z_iinc (pc' := 42) [(1, .int (zi ((k : Int) + 1))), (0, .ref a_t)] 1 dX7_init_39 rfl (by decide) rfl rfl ?_
      refine z_goto (tgt := 21) dX7_init_42 (by decide) ?_
      refine z_permT (X := ([(a_t, .inr (6, [.ref b1, .ref b2])), (b1, zV J 2 (va_up (fun j => if j < k then some (ad j).1 else none) ((k : Int)).toNat (some b))), (b2, zB J 2 (fun _ => 0))] ++ [(b, .inr (0, [.ref c1, .ref c2, .ref c3, .ref c4, .int (zi (0 : Int)), .int (zi (0 : Int)), .int (zi (0 : Int)), .int (zi (0 : Int))])), (c1, zI J 96 (fun _ => 0)), (c2, zI J 96 (fun _ => 0)), (c3, zI J 16 (fun _ => 0)), (c4, zI J 16 (fun _ => 0))])) (T := (zplo J ad (fun _ => zC0) (List.range k))) ([(a_t, .inr (6, [.ref b1, .ref b2])), (b1, zV J 2 (va_up (fun j => if j < k then some (ad j).1 else none) ((k : Int)).toNat (some b))), (b2, zB J 2 (fun _ => 0))] ++ [(b, .inr (0, [.ref c1, .ref c2, .ref c3, .ref c4, .int (zi (0 : Int)), .int (zi (0 : Int)), .int (zi (0 : Int)), .int (zi (0 : Int))])), (c1, zI J 96 (fun _ => 0)), (c2, zI J 96 (fun _ => 0)), (c3, zI J 16 (fun _ => 0)), (c4, zI J 16 (fun _ => 0))]) [(0, .ref a_t), (1, .int (zi ((k : Int) + 1)))] [0, 1, 2, 3, 4, 5, 6, 7] [1, 0] rfl rfl rfl ?_
      refine z_swapT2 (a := [(a_t, .inr (6, [.ref b1, .ref b2])), (b1, zV J 2 (va_up (fun j => if j < k then some (ad j).1 else none) ((k : Int)).toNat (some b))), (b2, zB J 2 (fun _ => 0))]) (b := [(b, .inr (0, [.ref c1, .ref c2, .ref c3, .ref c4, .int (zi (0 : Int)), .int (zi (0 : Int)), .int (zi (0 : Int)), .int (zi (0 : Int))])), (c1, zI J 96 (fun _ => 0)), (c2, zI J 96 (fun _ => 0)), (c3, zI J 16 (fun _ => 0)), (c4, zI J 16 (fun _ => 0))]) (T := (zplo J ad (fun _ => zC0) (List.range k))) ?_
      refine z_ws ([(a_t, .inr (6, [.ref b1, .ref b2])), (b1, zV J 2 (fun j => if j < k + 1 then some (va_up ad k (b, c1, c2, c3, c4) j).1 else none)), (b2, zB J 2 (fun _ => 0))] ++ zplo J (va_up ad k (b, c1, c2, c3, c4)) (fun _ => zC0) (List.range (k + 1))) (by rw [zst_up ad k (b, c1, c2, c3, c4), zpl_up ad k (b, c1, c2, c3, c4)]; rfl) ?_
      exact ih (k + 1) (va_up ad k (b, c1, c2, c3, c4)) _ _ (by omega) (by omega) (by omega)
set_option maxRecDepth 100000 in
set_option maxHeartbeats 4000000 in
theorem zc_X7_init (l : Launch) (D : va_G) (J : Nat → ClassId) (F : Nat) (a_t : Nat) (res : Unit) (hsh : sh_X7_init F = some res) : ZM l D J yX7_init wsX7_init ({ frames := 3, cells := 12, slots := 468, locals := 80 } : Room) 12 468 [.ref a_t] [(a_t, .inr (6, [.null, .null]))] (fun rv w9 => rv = none ∧ ∃ a_t_states a_t_filled : Nat, ∃ ad : Nat → Nat × Nat × Nat × Nat × Nat, w9 = ((a_t, .inr (6, [.ref a_t_states, .ref a_t_filled])) :: (a_t_states, zV J 2 (fun j => if j < 2 then some (ad j).1 else none)) :: (a_t_filled, zB J 2 (fun _ => 0)) :: (zplo J ad (fun _ => zC0) (List.range 2)))) := by
  refine z_ofZ (cc := cX7_init) (maxL := 2) (ret := none) 12 468 (by decide) rfl (Nat.le_of_ble_eq_true rfl) [(0, .ref a_t)] rfl ?_
  intro p e s m args below meth c A
  refine z_aload_n (pc' := 1) 0 dX7_init_0 rfl rfl rfl ?_
  refine z_objInit (pc' := 4) dX7_init_1 mX7_init_oi mX7_init_oim mX7_init_oic (Nat.le_of_ble_eq_true rfl) (Nat.le_of_ble_eq_true rfl) rfl ?_
  refine z_aload_n (pc' := 5) 0 dX7_init_4 rfl rfl rfl ?_
  refine z_iconst (pc' := 6) dX7_init_5 rfl ?_
  refine z_anewarr (pc' := 9) 2 1 2 dX7_init_6 mX7_init_c9s rfl (by decide) rfl rfl (Nat.le_of_ble_eq_true rfl) (Nat.le_of_ble_eq_true rfl) rfl (fun b1 => ?_)
  refine z_ws [(a_t, .inr (6, [.null, .null])), (b1, zV J 2 (fun _ => none))] rfl ?_
  refine z_putfin (pc' := 12) (C := RX7) (T := TX7) (N := 2) (ty := tyX7 0) 0 0 [(a_t, .inr (6, [.ref b1, .null])), (b1, zV J 2 (fun _ => none))] tyX7 tyX7_ok nmX7 dX7_init_9 iX7_init_X7 rfl rfl (by decide) mX7_init_f11 rfl rfl rfl (tyX7_ok 0 (by decide)) rfl rfl (Nat.le_of_ble_eq_true rfl) rfl rfl ?_
  refine z_aload_n (pc' := 13) 0 dX7_init_12 rfl rfl rfl ?_
  refine z_iconst (pc' := 14) dX7_init_13 rfl ?_
  refine z_newarr_boolean (pc' := 16) 2 2 4 dX7_init_14 mX7_init_aboolean rfl (by decide) rfl rfl (Nat.le_of_ble_eq_true rfl) (Nat.le_of_ble_eq_true rfl) rfl (fun b2 => ?_)
  refine z_ws [(a_t, .inr (6, [.ref b1, .null])), (b1, zV J 2 (fun _ => none)), (b2, zB J 2 (fun _ => 0))] rfl ?_
  refine z_putfin (pc' := 19) (C := RX7) (T := TX7) (N := 2) (ty := tyX7 1) 0 1 [(a_t, .inr (6, [.ref b1, .ref b2])), (b1, zV J 2 (fun _ => none)), (b2, zB J 2 (fun _ => 0))] tyX7 tyX7_ok nmX7 dX7_init_16 iX7_init_X7 rfl rfl (by decide) mX7_init_f17 rfl rfl rfl (tyX7_ok 1 (by decide)) rfl rfl (Nat.le_of_ble_eq_true rfl) rfl rfl ?_
  refine z_iconst (pc' := 20) dX7_init_19 rfl ?_
  refine z_istore_n (pc' := 21) [(1, .int (zi (0 : Int))), (0, .ref a_t)] dX7_init_20 rfl (by decide) rfl rfl ?_
  refine z_perm [(a_t, .inr (6, [.ref b1, .ref b2])), (b1, zV J 2 (fun _ => none)), (b2, zB J 2 (fun _ => 0))] [(0, .ref a_t), (1, .int (zi (0 : Int)))] [0, 1, 2] [1, 0] rfl rfl rfl ?_
  exact zl_X7_init F 2 0 (fun _ => (0, 0, 0, 0, 0)) 2 4 rfl rfl rfl
