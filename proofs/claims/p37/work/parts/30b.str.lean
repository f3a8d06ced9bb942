/-! THE LAW'S ONE STRING: charAt, method by method; cell -/
theorem mJ0_il_cs : Cond.fieldLink RJ0 38 "java/lang/String" "COMPACT_STRINGS" "Z" ∈ wsJ0_isLatin1_aae02 := List.mem_of_getElem? (i := 1) rfl
theorem mJ0_il_co : Cond.fieldLink RJ0 15 "java/lang/String" "coder" "B" ∈ wsJ0_isLatin1_aae02 := List.mem_of_getElem? (i := 2) rfl
set_option maxRecDepth 100000 in
set_option maxHeartbeats 4000000 in
theorem zc_isLatin1 (l : Launch) (D : va_G) (J : Nat → ClassId) : ZM l D J yJ0_isLatin1_aae02 wsJ0_isLatin1_aae02 ({ frames := 0, cells := 0, slots := 0, locals := 0 } : Room) 0 0 [.ref (J 8)] [] (fun rv w9 => rv = some (.int (zi 1)) ∧ w9 = []) := by
  refine z_ofZ (cc := cJ0_isLatin1_aae02) (maxL := 1) (ret := (some .boolean)) 0 0 (by decide) rfl (Nat.le_of_ble_eq_true rfl) [(0, .ref (J 8))] rfl ?_
  intro p e s m args below meth c A
  refine z_getCS (pc' := 3) dJ0_isLatin1_aae02_0 mJ0_il_cs rfl ?_
  refine z_if_eq (pc' := 6) (tgt := 17) dJ0_isLatin1_aae02_3 (by decide) (by decide) rfl (fun q => absurd q (by decide)) (fun q => ?_)
  refine z_aload_n (pc' := 7) 0 dJ0_isLatin1_aae02_6 rfl rfl rfl ?_
  refine z_getcoder (pc' := 10) dJ0_isLatin1_aae02_7 mJ0_il_co rfl ?_
  refine z_if_ne (pc' := 13) (tgt := 17) dJ0_isLatin1_aae02_10 (by decide) (by decide) rfl (fun q => absurd rfl q) (fun q => ?_)
  refine z_iconst (pc' := 14) dJ0_isLatin1_aae02_13 rfl ?_
  refine z_goto (tgt := 18) dJ0_isLatin1_aae02_14 (by decide) ?_
  exact z_zret rfl (by decide) dJ0_isLatin1_aae02_18 ⟨rfl, rfl⟩
set_option maxRecDepth 100000 in
set_option maxHeartbeats 4000000 in
theorem zc_checkIndex3 (l : Launch) (D : va_G) (J : Nat → ClassId) (k : Int) (hk : 0 ≤ k ∧ k < 6) (v : Value) (hv : v = .null ∨ ∃ t : Nat, v = .ref t) : ZM l D J yJ3_checkIndex_8e157 wsJ3_checkIndex_8e157 ({ frames := 0, cells := 0, slots := 0, locals := 0 } : Room) 0 0 [.int (zi k), .int (zi 6), v] [] (fun rv w9 => rv = some (.int (zi k)) ∧ w9 = []) := by
  have gk : -2147483648 ≤ k ∧ k ≤ 2147483647 := by omega
  rcases hv with rfl | ⟨t, rfl⟩
  all_goals
    refine z_ofZ (cc := cJ3_checkIndex_8e157) (maxL := 3) (ret := (some .int)) 0 0 (by decide) rfl (Nat.le_of_ble_eq_true rfl) _ rfl ?_
    intro p e s m args below meth c A
    refine z_iload_n (pc' := 1) 0 dJ3_checkIndex_8e157_0 rfl rfl rfl ?_
    refine z_if_lt (pc' := 4) (tgt := 9) dJ3_checkIndex_8e157_1 (by decide) gk rfl (fun q => absurd q (by omega)) (fun q => ?_)
    refine z_iload_n (pc' := 5) 0 dJ3_checkIndex_8e157_4 rfl rfl rfl ?_
    refine z_iload_n (pc' := 6) 1 dJ3_checkIndex_8e157_5 rfl rfl rfl ?_
    refine z_icmp_lt (pc' := 9) (tgt := 16) dJ3_checkIndex_8e157_6 (by decide) gk (by decide) rfl (fun q => ?_) (fun q => absurd hk.2 q)
    refine z_iload_n (pc' := 17) 0 dJ3_checkIndex_8e157_16 rfl rfl rfl ?_
    exact z_iret rfl dJ3_checkIndex_8e157_17 ⟨rfl, rfl⟩
theorem mJ0_ci_sf : Cond.fieldLink RJ0 1053 "jdk/internal/util/Preconditions" "SIOOBE_FORMATTER" "Ljava/util/function/BiFunction;" ∈ wsJ0_checkIndex_df160 := List.mem_of_getElem? (i := 1) rfl
set_option maxRecDepth 100000 in
set_option maxHeartbeats 4000000 in
theorem zc_checkIndex0 (l : Launch) (D : va_G) (J : Nat → ClassId) (k : Int) (hk : 0 ≤ k ∧ k < 6) : ZM l D J yJ0_checkIndex_df160 wsJ0_checkIndex_df160 ({ frames := 1, cells := 0, slots := 0, locals := 22 } : Room) 0 0 [.int (zi k), .int (zi 6)] [] (fun rv w9 => rv = none ∧ w9 = []) := by
  refine z_ofZ (cc := cJ0_checkIndex_df160) (maxL := 2) (ret := none) 0 0 (by decide) rfl (Nat.le_of_ble_eq_true rfl) [(0, .int (zi k)), (1, .int (zi 6))] rfl ?_
  intro p e s m args below meth c A
  refine z_iload_n (pc' := 1) 0 dJ0_checkIndex_df160_0 rfl rfl rfl ?_
  refine z_iload_n (pc' := 2) 1 dJ0_checkIndex_df160_1 rfl rfl rfl ?_
  refine z_getSF (pc' := 5) dJ0_checkIndex_df160_2 mJ0_ci_sf rfl (fun v hv => ?_)
  refine z_callS (pc' := 8) (As := [.int (zi k), .int (zi 6), v]) (rest := []) (wr := []) 3 (zc_checkIndex3 l D J k hk v hv) dJ0_checkIndex_df160_5 gJ0_checkIndex_df160_J3_checkIndex_8e157 rfl rfl rfl (by decide +kernel) ⟨Nat.le_of_ble_eq_true rfl, Nat.le_of_ble_eq_true rfl⟩ ⟨Nat.le_of_ble_eq_true rfl, Nat.le_of_ble_eq_true rfl⟩ (z_spl_e _) rfl rfl (Nat.le_of_ble_eq_true rfl) rfl (fun rv w9 hq => ?_)
  obtain ⟨rfl, rfl⟩ := hq
  refine z_pop (pc' := 9) dJ0_checkIndex_df160_8 rfl rfl ?_
  exact z_vret rfl dJ0_checkIndex_df160_9 ⟨rfl, rfl⟩
set_option maxRecDepth 100000 in
set_option maxHeartbeats 4000000 in
theorem zc_charAt1 (l : Launch) (D : va_G) (J : Nat → ClassId) (k : Nat) (hk : k < 6) : ZM l D J yJ1_charAt_3b067 wsJ1_charAt_3b067 ({ frames := 2, cells := 0, slots := 0, locals := 43 } : Room) 0 0 [.ref (J 9), .int (zi (k : Int))] [] (fun rv w9 => rv = some (.int (zi (zstr.getD k 0))) ∧ w9 = []) := by
  have hc : zand (zstr.getD k 0) 255 = zstr.getD k 0 ∧ (0 ≤ zstr.getD k 0 ∧ zstr.getD k 0 < 65536) ∧ narrow .char (.int (zi (zstr.getD k 0))) = .int (zi (zstr.getD k 0)) := by
    have : k = 0 ∨ k = 1 ∨ k = 2 ∨ k = 3 ∨ k = 4 ∨ k = 5 := by omega
    rcases this with rfl | rfl | rfl | rfl | rfl | rfl <;> decide +kernel
  refine z_ofZ (cc := cJ1_charAt_3b067) (maxL := 2) (ret := (some .char)) 0 0 (by decide) rfl (Nat.le_of_ble_eq_true rfl) [(0, .ref (J 9)), (1, .int (zi (k : Int)))] rfl ?_
  intro p e s m args below meth c A
  refine z_iload_n (pc' := 1) 1 dJ1_charAt_3b067_0 rfl rfl rfl ?_
  refine z_aload_n (pc' := 2) 0 dJ1_charAt_3b067_1 rfl rfl rfl ?_
  refine z_alenS (pc' := 3) dJ1_charAt_3b067_2 rfl ?_
  refine z_callS (pc' := 6) (As := [.int (zi (k : Int)), .int (zi 6)]) (rest := []) (wr := []) 2 (zc_checkIndex0 l D J (k : Int) ⟨by omega, by omega⟩) dJ1_charAt_3b067_3 gJ1_charAt_3b067_J0_checkIndex_df160 rfl rfl rfl (by decide +kernel) ⟨Nat.le_of_ble_eq_true rfl, Nat.le_of_ble_eq_true rfl⟩ ⟨Nat.le_of_ble_eq_true rfl, Nat.le_of_ble_eq_true rfl⟩ (z_spl_e _) rfl rfl (Nat.le_of_ble_eq_true rfl) rfl (fun rv w9 hq => ?_)
  obtain ⟨rfl, rfl⟩ := hq
  refine z_aload_n (pc' := 7) 0 dJ1_charAt_3b067_6 rfl rfl rfl ?_
  refine z_iload_n (pc' := 8) 1 dJ1_charAt_3b067_7 rfl rfl rfl ?_
  refine z_baloadS (pc' := 9) hk dJ1_charAt_3b067_8 rfl ?_
  refine z_sipush (pc' := 12) (n := 255) dJ1_charAt_3b067_9 (by decide) rfl ?_
  refine z_iand (pc' := 13) dJ1_charAt_3b067_12 rfl ?_
  rw [hc.1]
  refine z_i2c (pc' := 14) dJ1_charAt_3b067_13 hc.2.1 rfl ?_
  exact z_cret rfl hc.2.2 dJ1_charAt_3b067_14 ⟨rfl, rfl⟩
theorem mJ0_ca_v : Cond.fieldLink RJ0 9 "java/lang/String" "value" "[B" ∈ wsJ0_charAt_5068e := by decide +kernel
set_option maxRecDepth 100000 in
set_option maxHeartbeats 4000000 in
theorem zc_charAt (l : Launch) (D : va_G) (J : Nat → ClassId) (k0 : Int) (hk0 : 0 ≤ k0 ∧ k0 < 6) : ZM l D J yJ0_charAt_5068e wsJ0_charAt_5068e ({ frames := 8, cells := 0, slots := 0, locals := 80 } : Room) 0 0 [.ref (J 8), .int (zi k0)] [] (fun rv w9 => rv = some (.int (zi (zch k0))) ∧ w9 = []) := by
  obtain ⟨k, rfl⟩ : ∃ k : Nat, k0 = (k : Int) := ⟨k0.toNat, by omega⟩
  have hk : k < 6 := by omega
  have hz : zch (k : Int) = zstr.getD k 0 := by unfold zch; rw [Int.toNat_natCast]
  rw [hz]
  have hc : narrow .char (.int (zi (zstr.getD k 0))) = .int (zi (zstr.getD k 0)) := by
    have : k = 0 ∨ k = 1 ∨ k = 2 ∨ k = 3 ∨ k = 4 ∨ k = 5 := by omega
    rcases this with rfl | rfl | rfl | rfl | rfl | rfl <;> decide +kernel
  refine z_ofZ (cc := cJ0_charAt_5068e) (maxL := 2) (ret := (some .char)) 0 0 (by decide) rfl (Nat.le_of_ble_eq_true rfl) [(0, .ref (J 8)), (1, .int (zi (k : Int)))] rfl ?_
  intro p e s m args below meth c A
  refine z_aload_n (pc' := 1) 0 dJ0_charAt_5068e_0 rfl rfl rfl ?_
  refine z_callStr (pc' := 4) (As := []) (rest := []) (wr := []) 0 (zc_isLatin1 l D J) dJ0_charAt_5068e_1 gJ0_charAt_5068e_J0_isLatin1_aae02 rfl rfl rfl (by decide +kernel) ⟨Nat.le_of_ble_eq_true rfl, Nat.le_of_ble_eq_true rfl⟩ ⟨Nat.le_of_ble_eq_true rfl, Nat.le_of_ble_eq_true rfl⟩ (z_spl_e _) rfl rfl (Nat.le_of_ble_eq_true rfl) rfl (fun rv w9 hq => ?_)
  obtain ⟨rfl, rfl⟩ := hq
  refine z_if_eq (pc' := 7) (tgt := 16) dJ0_charAt_5068e_4 (by decide) (by decide) rfl (fun q => absurd q (by decide)) (fun q => ?_)
  refine z_aload_n (pc' := 8) 0 dJ0_charAt_5068e_7 rfl rfl rfl ?_
  refine z_getvalue (pc' := 11) dJ0_charAt_5068e_8 mJ0_ca_v rfl ?_
  refine z_iload_n (pc' := 12) 1 dJ0_charAt_5068e_11 rfl rfl rfl ?_
  refine z_callS (pc' := 15) (As := [.ref (J 9), .int (zi (k : Int))]) (rest := []) (wr := []) 2 (zc_charAt1 l D J k hk) dJ0_charAt_5068e_12 gJ0_charAt_5068e_J1_charAt_3b067 rfl rfl rfl (by decide +kernel) ⟨Nat.le_of_ble_eq_true rfl, Nat.le_of_ble_eq_true rfl⟩ ⟨Nat.le_of_ble_eq_true rfl, Nat.le_of_ble_eq_true rfl⟩ (z_spl_e _) rfl rfl (Nat.le_of_ble_eq_true rfl) rfl (fun rv w9 hq => ?_)
  obtain ⟨rfl, rfl⟩ := hq
  exact z_cret rfl hc dJ0_charAt_5068e_15 ⟨rfl, rfl⟩
theorem zand_nn (x : Int) : 0 ≤ zand x 2147483647 ∧ zand x 2147483647 ≤ 2147483647 := by
  unfold zand
  have hm : (zi x &&& zi 2147483647).toBitVec.msb = false := by
    rw [Int32.toBitVec_and, BitVec.msb_and, show (zi 2147483647).toBitVec.msb = false by decide]
    exact Bool.and_false _
  have h2 : (zi x &&& zi 2147483647).toInt = (((zi x &&& zi 2147483647).toBitVec.toNat : Nat) : Int) := BitVec.toInt_eq_toNat_of_msb hm
  have h3 := BitVec.msb_eq_false_iff_two_mul_lt.mp hm
  rw [h2]
  omega
theorem mL_cell_k7 : Cond.constant RL 7 (15573001) ∈ wsL_cell := List.mem_of_getElem? (i := 1) rfl
theorem mL_cell_k8 : Cond.constant RL 8 (2147483647) ∈ wsL_cell := List.mem_of_getElem? (i := 2) rfl
set_option maxRecDepth 100000 in
set_option maxHeartbeats 4000000 in
theorem zc_L_cell (l : Launch) (D : va_G) (J : Nat → ClassId) (k : Int) (hk : 0 ≤ k ∧ k ≤ 2147483647) : ZM l D J yL_cell wsL_cell ({ frames := 0, cells := 0, slots := 0, locals := 0 } : Room) 0 0 [.ref (J 7), .int (zi k)] [] (fun rv w9 => (∃ v : Int, (0 ≤ v ∧ v ≤ 2147483647) ∧ rv = some (.int (zi v))) ∧ w9 = []) := by
  refine z_ofZ (cc := cL_cell) (maxL := 2) (ret := (some .int)) 0 0 (by decide) rfl (Nat.le_of_ble_eq_true rfl) [(0, .ref (J 7)), (1, .int (zi k))] rfl ?_
  intro p e s m args below meth c A
  refine z_scr (fun L xs hL hr hX hbl hbA => ?_)
  refine z_iload_n (pc' := 1) 1 dL_cell_0 rfl rfl rfl ?_
  refine z_aload_n (pc' := 2) 0 dL_cell_1 rfl rfl rfl ?_
  refine z_slen hX hbl hbA (pc' := 3) dL_cell_2 rfl ?_
  refine z_icmp_ge (pc' := 6) (tgt := 12) dL_cell_3 (by decide) ⟨by omega, by omega⟩ ⟨by omega, by omega⟩ rfl (fun q => ?_) (fun q => ?_)
  · refine z_ldc (pc' := 14) (15573001 : Int) dL_cell_12 mL_cell_k7 (by decide) rfl ?_
    refine z_iload_n (pc' := 15) 1 dL_cell_14 rfl rfl rfl ?_
    refine z_imul (pc' := 16) dL_cell_15 rfl ?_
    refine z_sipush (pc' := 19) dL_cell_16 (by decide) rfl ?_
    refine z_iadd (pc' := 20) dL_cell_19 rfl ?_
    refine z_ldc (pc' := 22) (2147483647 : Int) dL_cell_20 mL_cell_k8 (by decide) rfl ?_
    refine z_iand (pc' := 23) dL_cell_22 rfl ?_
    exact z_iret rfl dL_cell_23 ⟨⟨_, zand_nn _, rfl⟩, rfl⟩
  · refine z_aload_n (pc' := 7) 0 dL_cell_6 rfl rfl rfl ?_
    refine z_iload_n (pc' := 8) 1 dL_cell_7 rfl rfl rfl ?_
    refine z_sld hX hbl hbA hL (pc' := 9) dL_cell_8 ⟨hk.1, q⟩ rfl ?_
    refine z_goto (tgt := 20) dL_cell_9 (by decide) ?_
    refine z_ldc (pc' := 22) (2147483647 : Int) dL_cell_20 mL_cell_k8 (by decide) rfl ?_
    refine z_iand (pc' := 23) dL_cell_22 rfl ?_
    exact z_iret rfl dL_cell_23 ⟨⟨_, zand_nn _, rfl⟩, rfl⟩
