/-! THE LAW: one round over two objects that hold the same -/
theorem zand_l {x : Nat} (hx : x ≤ 2147483647) (y : Int) : 0 ≤ zand (x : Int) y ∧ zand (x : Int) y ≤ 2147483647 := by
  unfold zand
  have hx0 : (zi (x : Int)).toBitVec.msb = false := by
    rw [bi_nI]
    show (BitVec.ofNat 32 x).msb = false
    rw [BitVec.msb_eq_false_iff_two_mul_lt, BitVec.toNat_ofNat]
    have : x % 2 ^ 32 = x := Nat.mod_eq_of_lt (by omega)
    omega
  have hm : (zi (x : Int) &&& zi y).toBitVec.msb = false := by
    rw [Int32.toBitVec_and, BitVec.msb_and, hx0]
    rfl
  have h2 : (zi (x : Int) &&& zi y).toInt = (((zi (x : Int) &&& zi y).toBitVec.toNat : Nat) : Int) := BitVec.toInt_eq_toNat_of_msb hm
  have h3 := BitVec.msb_eq_false_iff_two_mul_lt.mp hm
  rw [h2]
  omega
theorem cOB.c14 {J : Nat → ClassId} {t : Nat} {A : zO} {ws : va_W} (h : cOB J t A ws) : oc A ≤ 14 := by
  refine cOB.elim (fun _ => oc A ≤ 14) h ?_
  intros
  rename_i O
  obtain ⟨o, -, -, -, h4, -⟩ := O.2.2.1
  exact h4
section LW
variable {p : Program} {l : Launch} {e : Env} {s : State} {m : MethodId} {args : Array Value} {below : List Frame} {meth : Method} {c : Code} {Q : State → Prop} {ret : Option FieldType} {nm : String × List ExceptionTableEntry} {Af : Nat → Prop} {D : va_G} {J : Nat → ClassId}
set_option maxRecDepth 100000 in
set_option maxHeartbeats 4000000 in
theorem lw_round {a1 a2 : Nat} {B : zO} {b : Int} {w1 w2 : va_W} {k cs ss : Nat} (W : zOK b B) (hb : 0 ≤ b ∧ b ≤ 60000) (h1 : cOB J a1 B w1) (h2 : cOB J a2 B w2) (hk : k < 12) (hcs : cs + 785 ≤ 849423) (hss : ss + 4726 ≤ 6553199) (next : ∀ (B' : zO) (w1' w2' : va_W), zOK (b + 12) B' → cOB J a1 B' w1' → cOB J a2 B' w2' → Z p l e room_1 s m args below meth c Q cL_law 9 wsL_law RL D J Af ret nm (cs + 785) (ss + 4726) (w1' ++ w2') [(0, .ref (J 7)), (1, .ref a1), (2, .ref a2), (3, .int (zi (1 : Int))), (4, .int (zi ((ow B' : Nat) : Int))), (5, .int (zi ((k : Int) + (1 : Int))))] 51 []) : Z p l e room_1 s m args below meth c Q cL_law 9 wsL_law RL D J Af ret nm cs ss (w1 ++ w2) [(0, .ref (J 7)), (1, .ref a1), (2, .ref a2), (3, .int (zi (1 : Int))), (4, .int (zi ((ow B : Nat) : Int))), (5, .int (zi (k : Int)))] 51 [] := by
  refine z_iload (pc' := 53) 5 dL_law_51 rfl rfl ?_
  refine z_bipush (pc' := 55) dL_law_53 (by decide) rfl ?_
  refine z_icmp_ge (pc' := 58) (tgt := 281) dL_law_55 (by decide) (by omega) (by decide) rfl (fun q => absurd (by omega) q) (fun _ => ?_)
  refine z_iload_n (pc' := 59) 3 dL_law_58 rfl rfl rfl ?_
  refine z_if_eq (pc' := 62) (tgt := 281) dL_law_59 (by decide) (by decide) rfl (fun q => absurd q (by decide)) (fun _ => ?_)
  refine z_aload_n (pc' := 63) 0 dL_law_62 rfl rfl rfl ?_
  refine z_iconst (pc' := 64) dL_law_63 rfl ?_
  refine z_iload (pc' := 66) 5 dL_law_64 rfl rfl ?_
  refine z_imul (pc' := 67) dL_law_66 rfl ?_
  refine z_callS (pc' := 70) (As := [.ref (J 7), .int (zi ((2 : Int) * (k : Int)))]) (rest := []) (wr := w1 ++ w2) 2 (zc_L_cell l D J ((2 : Int) * (k : Int)) ⟨by omega, by omega⟩) dL_law_67 gL_law_L_cell rfl rfl rfl (by decide +kernel) ⟨Nat.le_of_ble_eq_true rfl, Nat.le_of_ble_eq_true rfl⟩ ⟨by show cs + 0 ≤ 849423; omega, by show ss + 0 ≤ 6553199; omega⟩ (z_spl_e _) rfl rfl (Nat.le_of_ble_eq_true rfl) rfl (fun rv w9 hq => ?_)
  obtain ⟨⟨x, hx, rfl⟩, rfl⟩ := hq
  refine z_ws (w1 ++ w2) (List.append_nil _) ?_
  refine z_istore (pc' := 72) [(6, .int (zi x)), (0, .ref (J 7)), (1, .ref a1), (2, .ref a2), (3, .int (zi (1 : Int))), (4, .int (zi ((ow B : Nat) : Int))), (5, .int (zi (k : Int)))] dL_law_70 (by decide) rfl rfl ?_
  refine z_aload_n (pc' := 73) 1 dL_law_72 rfl rfl rfl ?_
  refine z_iconst (pc' := 74) dL_law_73 rfl ?_
  refine z_iload (pc' := 76) 6 dL_law_74 rfl rfl ?_
  refine z_imul (pc' := 77) dL_law_76 rfl ?_
  refine z_iconst (pc' := 78) dL_law_77 rfl ?_
  refine z_iadd (pc' := 79) dL_law_78 rfl ?_
  refine z_callS (pc' := 82) (As := [.ref (J 7), .int (zi (((2 : Int) * (k : Int)) + (1 : Int)))]) (rest := []) (wr := w1 ++ w2) 2 (zc_L_cell l D J (((2 : Int) * (k : Int)) + (1 : Int)) ⟨by omega, by omega⟩) dL_law_79 gL_law_L_cell rfl rfl rfl (by decide +kernel) ⟨Nat.le_of_ble_eq_true rfl, Nat.le_of_ble_eq_true rfl⟩ ⟨by show cs + 0 + 0 ≤ 849423; omega, by show ss + 0 + 0 ≤ 6553199; omega⟩ (z_spl_e _) rfl rfl (Nat.le_of_ble_eq_true rfl) rfl (fun rv w9 hq => ?_)
  obtain ⟨⟨y, hy, rfl⟩, rfl⟩ := hq
  refine z_ws (w1 ++ w2) (List.append_nil _) ?_
  refine z_istore (pc' := 84) [(7, .int (zi y)), (6, .int (zi x)), (0, .ref (J 7)), (1, .ref a1), (2, .ref a2), (3, .int (zi (1 : Int))), (4, .int (zi ((ow B : Nat) : Int))), (5, .int (zi (k : Int)))] dL_law_82 (by decide) rfl rfl ?_
  obtain ⟨x, rfl⟩ : ∃ z : Nat, x = (z : Int) := ⟨x.toNat, by omega⟩
  obtain ⟨y, rfl⟩ : ∃ z : Nat, y = (z : Int) := ⟨y.toNat, by omega⟩
  refine z_widen cs ss (by omega) (by omega) ?_
  have J99 : ∀ x : Nat, x ≤ 2147483647 → Z p l e room_1 s m args below meth c Q cL_law 9 wsL_law RL D J Af ret nm cs ss (w1 ++ w2) [(7, .int (zi (y : Int))), (6, .int (zi (x : Int))), (0, .ref (J 7)), (1, .ref a1), (2, .ref a2), (3, .int (zi (1 : Int))), (4, .int (zi ((ow B : Nat) : Int))), (5, .int (zi (k : Int)))] 99 [] := by
    intro x hx
    obtain ⟨r, B', eA, WB, hg1, hg2⟩ := act_ok W (by omega) (F := 20000) (x := x) (y := y) (by omega) hx (by omega)
    obtain ⟨d, hd, hdr⟩ : ∃ d : Int, zi r = zi d ∧ -2147483648 ≤ d ∧ d ≤ 2147483647 := by
      have i1 := Int32.toInt_lt (zi r)
      have i2 := Int32.le_toInt (zi r)
      exact ⟨(zi r).toInt, (Int32.ofInt_toInt _).symm, by omega, by omega⟩
    have W9 : zOK 90000 B' := WB.mono (by omega)
    have hn16 := WB.n16
    have n1 := WB.n1
    have cA : ∀ {a : Nat} {w : va_W}, cOB J a B w → ZM l D J yL_act wsL_act ({ frames := 10, cells := 4, slots := 24, locals := 184 } : Room) 4 24 [.ref a, .int (zi (x : Int)), .int (zi (y : Int))] w (fun rv w9 => rv = some (.int (zi d)) ∧ cOB J a B' w9) := fun h => (zc_L_act l D J 20000 h (x : Int) (y : Int) (r, B') eA).post (fun rv w hq => ⟨hq.1.trans (congrArg (fun z => some (Value.int z)) hd), hq.2⟩)
    refine z_aload_n (pc' := 100) 3 dL_law_99 rfl rfl rfl ?_
    refine z_iload (pc' := 102) 1 dL_law_100 rfl rfl ?_
    refine z_iload (pc' := 104) 0 dL_law_102 rfl rfl ?_
    refine z_callS (pc' := 107) (As := [.ref a1, .int (zi (x : Int)), .int (zi (y : Int))]) (rest := []) (wr := w2) 3 (cA h1) dL_law_104 gL_law_L_act rfl rfl rfl (by decide +kernel) ⟨Nat.le_of_ble_eq_true rfl, Nat.le_of_ble_eq_true rfl⟩ ⟨by show cs + 4 ≤ 849423; omega, by show ss + 24 ≤ 6553199; omega⟩ (z_spl_id _ _) rfl rfl (Nat.le_of_ble_eq_true rfl) rfl (fun rv u1 hq => ?_)
    obtain ⟨rfl, k1⟩ := hq
    refine z_ws (w2 ++ u1) rfl ?_
    refine z_istore (pc' := 109) [(8, .int (zi d)), (7, .int (zi (y : Int))), (6, .int (zi (x : Int))), (0, .ref (J 7)), (1, .ref a1), (2, .ref a2), (3, .int (zi (1 : Int))), (4, .int (zi ((ow B : Nat) : Int))), (5, .int (zi (k : Int)))] dL_law_107 (by decide) rfl rfl ?_
    have J142 : Z p l e room_1 s m args below meth c Q cL_law 9 wsL_law RL D J Af ret nm (cs + 4) (ss + 24) (w2 ++ u1) [(8, .int (zi d)), (7, .int (zi (y : Int))), (6, .int (zi (x : Int))), (0, .ref (J 7)), (1, .ref a1), (2, .ref a2), (3, .int (zi (1 : Int))), (4, .int (zi ((ow B : Nat) : Int))), (5, .int (zi (k : Int)))] 142 [.int (zi ((ow B' : Nat) : Int))] := by
      refine z_istore (pc' := 144) [(4, .int (zi ((ow B' : Nat) : Int))), (8, .int (zi d)), (7, .int (zi (y : Int))), (6, .int (zi (x : Int))), (0, .ref (J 7)), (1, .ref a1), (2, .ref a2), (3, .int (zi (1 : Int))), (5, .int (zi (k : Int)))] dL_law_142 (by decide) rfl rfl ?_
      refine z_iload (pc' := 146) 1 dL_law_144 rfl rfl ?_
      refine z_aload_n (pc' := 147) 6 dL_law_146 rfl rfl rfl ?_
      refine z_iload (pc' := 149) 3 dL_law_147 rfl rfl ?_
      refine z_iload (pc' := 151) 2 dL_law_149 rfl rfl ?_
      refine z_callS (pc' := 154) (As := [.ref a2, .int (zi (x : Int)), .int (zi (y : Int))]) (rest := [.int (zi d)]) (wr := u1) 3 (cA h2) dL_law_151 gL_law_L_act rfl rfl rfl (by decide +kernel) ⟨Nat.le_of_ble_eq_true rfl, Nat.le_of_ble_eq_true rfl⟩ ⟨by show cs + 4 + 4 ≤ 849423; omega, by show ss + 24 + 24 ≤ 6553199; omega⟩ (z_spl_id _ _) rfl rfl (Nat.le_of_ble_eq_true rfl) rfl (fun rv u2 hq => ?_)
      obtain ⟨rfl, k2⟩ := hq
      refine z_ws (u1 ++ u2) rfl ?_
      refine z_icmp_ne (pc' := 157) (tgt := 176) dL_law_154 (by decide) hdr hdr rfl (fun q => absurd rfl q) (fun _ => ?_)
      refine z_aload_n (pc' := 158) 6 dL_law_157 rfl rfl rfl ?_
      refine z_callS (pc' := 161) (As := [.ref a2]) (rest := []) (wr := u1) 1 (zc_L_errors l D J 20000 k2 1 (errors_ok W9)) dL_law_158 gL_law_L_errors rfl rfl rfl (by decide +kernel) ⟨Nat.le_of_ble_eq_true rfl, Nat.le_of_ble_eq_true rfl⟩ ⟨by show cs + 4 + 4 + 227 ≤ 849423; omega, by show ss + 24 + 24 + 1362 ≤ 6553199; omega⟩ (z_spl_sw _ _) rfl rfl (Nat.le_of_ble_eq_true rfl) rfl (fun rv u3 hq => ?_)
      obtain ⟨rfl, k2⟩ := hq
      refine z_ws (u1 ++ u3) rfl ?_
      refine z_if_eq (pc' := 164) (tgt := 176) dL_law_161 (by decide) (by decide) rfl (fun q => absurd q (by decide)) (fun _ => ?_)
      refine z_aload_n (pc' := 165) 5 dL_law_164 rfl rfl rfl ?_
      refine z_aload_n (pc' := 166) 6 dL_law_165 rfl rfl rfl ?_
      refine z_callS (pc' := 169) (As := [.ref a1, .ref a2]) (rest := []) (wr := []) 2 (zc_L_alike l D J 20000 k1 k2 1 (alike_ok W9 (by omega))) dL_law_166 gL_law_L_alike rfl rfl rfl (by decide +kernel) ⟨Nat.le_of_ble_eq_true rfl, Nat.le_of_ble_eq_true rfl⟩ ⟨by show cs + 4 + 4 + 227 + 272 ≤ 849423; omega, by show ss + 24 + 24 + 1362 + 1632 ≤ 6553199; omega⟩ (z_spl_nil _) rfl rfl (Nat.le_of_ble_eq_true rfl) rfl (fun rv w9 hq => ?_)
      obtain ⟨rfl, v1, v2, rfl, k1, k2⟩ := hq
      refine z_ws (v1 ++ v2) rfl ?_
      refine z_if_eq (pc' := 172) (tgt := 176) dL_law_169 (by decide) (by decide) rfl (fun q => absurd q (by decide)) (fun _ => ?_)
      refine z_iconst (pc' := 173) dL_law_172 rfl ?_
      refine z_goto (tgt := 177) dL_law_173 (by decide) ?_
      refine z_istore_n (pc' := 178) [(3, .int (zi (1 : Int))), (4, .int (zi ((ow B' : Nat) : Int))), (8, .int (zi d)), (7, .int (zi (y : Int))), (6, .int (zi (x : Int))), (0, .ref (J 7)), (1, .ref a1), (2, .ref a2), (5, .int (zi (k : Int)))] dL_law_177 rfl (by decide) rfl rfl ?_
      refine z_iload_n (pc' := 179) 0 dL_law_178 rfl rfl rfl ?_
      refine z_if_eq (pc' := 182) (tgt := 273) dL_law_179 (by decide) (by decide) rfl (fun q => absurd q (by decide)) (fun _ => ?_)
      refine z_widen (cs + 507) (ss + 3042) (by omega) (by omega) ?_
      refine z_aload_n (pc' := 183) 6 dL_law_182 rfl rfl rfl ?_
      refine z_iload (pc' := 185) 1 dL_law_183 rfl rfl ?_
      refine z_callS (pc' := 188) (As := [.ref a1, .int (zi ((ow B' : Nat) : Int))]) (rest := []) (wr := v2) 2 (zc_L_bounds l D J 20000 k1 ((ow B' : Nat) : Int) 1 (bounds_ok W9 (by omega))) dL_law_185 gL_law_L_bounds rfl rfl rfl (by decide +kernel) ⟨Nat.le_of_ble_eq_true rfl, Nat.le_of_ble_eq_true rfl⟩ ⟨by show cs + 507 + 0 ≤ 849423; omega, by show ss + 3042 + 0 ≤ 6553199; omega⟩ (z_spl_id _ _) rfl rfl (Nat.le_of_ble_eq_true rfl) rfl (fun rv u4 hq => ?_)
      obtain ⟨rfl, k1⟩ := hq
      refine z_ws (v2 ++ u4) rfl ?_
      refine z_if_eq (pc' := 191) (tgt := 273) dL_law_188 (by decide) (by decide) rfl (fun q => absurd q (by decide)) (fun _ => ?_)
      have ep : kd_pointCount B' = some ((onn B' : Nat) : Int) := by unfold kd_pointCount; rw [kx_t W9]
      have my : zmod (y : Int) ((onn B' : Nat) : Int) = ((y % onn B' : Nat) : Int) := md_n y (onn B')
      have d16 : zdiv (y : Int) (16 : Int) = ((y / 16 : Nat) : Int) := dv_n y 16
      have m9 : zmod ((y / 16 : Nat) : Int) (9 : Int) = ((y / 16 % 9 : Nat) : Int) := md_n _ 9
      have e9 : ((1 : Int) + ((y / 16 % 9 : Nat) : Int)) = ((1 + y / 16 % 9 : Nat) : Int) := by omega
      have hp : y % onn B' < onn B' := Nat.mod_lt _ (by omega)
      obtain ⟨C1, eW, WC1, hC1⟩ := wants_ok WB ⟨by omega, by omega⟩ (F := 20000) (p := y % onn B') (k := 1 + y / 16 % 9) (by omega) hp (by omega)
      refine z_aload_n (pc' := 192) 6 dL_law_191 rfl rfl rfl ?_
      refine z_iload (pc' := 194) 3 dL_law_192 rfl rfl ?_
      refine z_aload_n (pc' := 195) 6 dL_law_194 rfl rfl rfl ?_
      obtain ⟨fs1, hz1⟩ := k1.h0
      refine z_callV (pc' := 198) (C := RX8) (As := []) (rest := [.int (zi (y : Int)), .ref a1]) (wr := v2) 0 (oc_pointCount_d l D J k1 ep) dL_law_195 gL_law_X8_pointCount rfl rfl rfl (by decide +kernel) ⟨Nat.le_of_ble_eq_true rfl, Nat.le_of_ble_eq_true rfl⟩ ⟨by show cs + 507 + 0 + 0 ≤ 849423; omega, by show ss + 3042 + 0 + 0 ≤ 6553199; omega⟩ (z_spl_sw _ _) hz1 rfl rfl rfl (Nat.le_of_ble_eq_true rfl) rfl (fun rv u5 hq => ?_)
      obtain ⟨rfl, -, k1⟩ := hq
      refine z_ws (v2 ++ u5) rfl ?_
      refine z_irem (pc' := 199) dL_law_198 (by omega) (by omega) (by omega) rfl ?_
      rw [my]
      refine z_iconst (pc' := 200) dL_law_199 rfl ?_
      refine z_iload (pc' := 202) 3 dL_law_200 rfl rfl ?_
      refine z_bipush (pc' := 204) dL_law_202 (by decide) rfl ?_
      refine z_idiv (pc' := 205) dL_law_204 (by omega) (by decide) (by decide) rfl ?_
      rw [d16]
      refine z_bipush (pc' := 207) dL_law_205 (by decide) rfl ?_
      refine z_irem (pc' := 208) dL_law_207 (by omega) (by decide) (by decide) rfl ?_
      rw [m9]
      refine z_iadd (pc' := 209) dL_law_208 rfl ?_
      rw [e9]
      refine z_iload (pc' := 211) 1 dL_law_209 rfl rfl ?_
      refine z_callS (pc' := 214) (As := [.ref a1, .int (zi ((y % onn B' : Nat) : Int)), .int (zi ((1 + y / 16 % 9 : Nat) : Int)), .int (zi ((ow B' : Nat) : Int))]) (rest := []) (wr := v2) 4 (zc_L_wants l D J 20000 k1 ((y % onn B' : Nat) : Int) ((1 + y / 16 % 9 : Nat) : Int) ((ow B' : Nat) : Int) (1, C1) eW) dL_law_211 gL_law_L_wants rfl rfl rfl (by decide +kernel) ⟨Nat.le_of_ble_eq_true rfl, Nat.le_of_ble_eq_true rfl⟩ ⟨by show cs + 507 + 0 + 0 + 1 ≤ 849423; omega, by show ss + 3042 + 0 + 0 + 16 ≤ 6553199; omega⟩ (z_spl_sw _ _) rfl rfl (Nat.le_of_ble_eq_true rfl) rfl (fun rv u6 hq => ?_)
      obtain ⟨rfl, k1⟩ := hq
      refine z_ws (v2 ++ u6) rfl ?_
      refine z_if_eq (x := (1 : Int)) (pc' := 217) (tgt := 273) dL_law_214 (by decide) (by decide) rfl (fun q => absurd q (by decide)) (fun _ => ?_)
      refine z_widen (cs + 508) (ss + 3058) (by omega) (by omega) ?_
      refine z_aload_n (pc' := 218) 7 dL_law_217 rfl rfl rfl ?_
      refine z_iload (pc' := 220) 3 dL_law_218 rfl rfl ?_
      refine z_aload_n (pc' := 221) 7 dL_law_220 rfl rfl rfl ?_
      obtain ⟨fs2, hz2⟩ := k2.h0
      refine z_callV (pc' := 224) (C := RX8) (As := []) (rest := [.int (zi (y : Int)), .ref a2]) (wr := u6) 0 (oc_pointCount_d l D J k2 ep) dL_law_221 gL_law_X8_pointCount rfl rfl rfl (by decide +kernel) ⟨Nat.le_of_ble_eq_true rfl, Nat.le_of_ble_eq_true rfl⟩ ⟨by show cs + 508 + 0 ≤ 849423; omega, by show ss + 3058 + 0 ≤ 6553199; omega⟩ (z_spl_id _ _) hz2 rfl rfl rfl (Nat.le_of_ble_eq_true rfl) rfl (fun rv u7 hq => ?_)
      obtain ⟨rfl, -, k2⟩ := hq
      refine z_ws (u6 ++ u7) rfl ?_
      refine z_irem (pc' := 225) dL_law_224 (by omega) (by omega) (by omega) rfl ?_
      rw [my]
      refine z_iconst (pc' := 226) dL_law_225 rfl ?_
      refine z_iload (pc' := 228) 3 dL_law_226 rfl rfl ?_
      refine z_bipush (pc' := 230) dL_law_228 (by decide) rfl ?_
      refine z_idiv (pc' := 231) dL_law_230 (by omega) (by decide) (by decide) rfl ?_
      rw [d16]
      refine z_bipush (pc' := 233) dL_law_231 (by decide) rfl ?_
      refine z_irem (pc' := 234) dL_law_233 (by omega) (by decide) (by decide) rfl ?_
      rw [m9]
      refine z_iadd (pc' := 235) dL_law_234 rfl ?_
      rw [e9]
      refine z_iload (pc' := 237) 1 dL_law_235 rfl rfl ?_
      refine z_callS (pc' := 240) (As := [.ref a2, .int (zi ((y % onn B' : Nat) : Int)), .int (zi ((1 + y / 16 % 9 : Nat) : Int)), .int (zi ((ow B' : Nat) : Int))]) (rest := []) (wr := u6) 4 (zc_L_wants l D J 20000 k2 ((y % onn B' : Nat) : Int) ((1 + y / 16 % 9 : Nat) : Int) ((ow B' : Nat) : Int) (1, C1) eW) dL_law_237 gL_law_L_wants rfl rfl rfl (by decide +kernel) ⟨Nat.le_of_ble_eq_true rfl, Nat.le_of_ble_eq_true rfl⟩ ⟨by show cs + 508 + 0 + 1 ≤ 849423; omega, by show ss + 3058 + 0 + 16 ≤ 6553199; omega⟩ (z_spl_sw _ _) rfl rfl (Nat.le_of_ble_eq_true rfl) rfl (fun rv u8 hq => ?_)
      obtain ⟨rfl, k2⟩ := hq
      refine z_ws (u6 ++ u8) rfl ?_
      refine z_if_eq (x := (1 : Int)) (pc' := 243) (tgt := 273) dL_law_240 (by decide) (by decide) rfl (fun q => absurd q (by decide)) (fun _ => ?_)
      refine z_widen (cs + 509) (ss + 3074) (by omega) (by omega) ?_
      obtain ⟨C2, eD, WC2, hC2⟩ := done_ok WC1 ⟨by omega, by omega⟩ (F := 20000) (y := y) (by omega) (by omega) k1.c14
      refine z_aload_n (pc' := 244) 6 dL_law_243 rfl rfl rfl ?_
      refine z_iload (pc' := 246) 3 dL_law_244 rfl rfl ?_
      refine z_callS (pc' := 249) (As := [.ref a1, .int (zi (y : Int))]) (rest := []) (wr := u8) 2 (zc_L_done l D J 20000 k1 (y : Int) (1, C2) eD) dL_law_246 gL_law_L_done rfl rfl rfl (by decide +kernel) ⟨Nat.le_of_ble_eq_true rfl, Nat.le_of_ble_eq_true rfl⟩ ⟨by show cs + 509 + 2 ≤ 849423; omega, by show ss + 3074 + 10 ≤ 6553199; omega⟩ (z_spl_id _ _) rfl rfl (Nat.le_of_ble_eq_true rfl) rfl (fun rv u9 hq => ?_)
      obtain ⟨rfl, k1⟩ := hq
      refine z_ws (u8 ++ u9) rfl ?_
      refine z_if_eq (x := (1 : Int)) (pc' := 252) (tgt := 273) dL_law_249 (by decide) (by decide) rfl (fun q => absurd q (by decide)) (fun _ => ?_)
      refine z_aload_n (pc' := 253) 7 dL_law_252 rfl rfl rfl ?_
      refine z_iload (pc' := 255) 3 dL_law_253 rfl rfl ?_
      refine z_callS (pc' := 258) (As := [.ref a2, .int (zi (y : Int))]) (rest := []) (wr := u9) 2 (zc_L_done l D J 20000 k2 (y : Int) (1, C2) eD) dL_law_255 gL_law_L_done rfl rfl rfl (by decide +kernel) ⟨Nat.le_of_ble_eq_true rfl, Nat.le_of_ble_eq_true rfl⟩ ⟨by show cs + 509 + 2 + 2 ≤ 849423; omega, by show ss + 3074 + 10 + 10 ≤ 6553199; omega⟩ (z_spl_id _ _) rfl rfl (Nat.le_of_ble_eq_true rfl) rfl (fun rv u10 hq => ?_)
      obtain ⟨rfl, k2⟩ := hq
      refine z_ws (u9 ++ u10) rfl ?_
      refine z_if_eq (x := (1 : Int)) (pc' := 261) (tgt := 273) dL_law_258 (by decide) (by decide) rfl (fun q => absurd q (by decide)) (fun _ => ?_)
      refine z_aload_n (pc' := 262) 6 dL_law_261 rfl rfl rfl ?_
      refine z_aload_n (pc' := 263) 7 dL_law_262 rfl rfl rfl ?_
      refine z_callS (pc' := 266) (As := [.ref a1, .ref a2]) (rest := []) (wr := []) 2 (zc_L_alike l D J 20000 k1 k2 1 (alike_ok (WC2.mono (by omega)) (by omega))) dL_law_263 gL_law_L_alike rfl rfl rfl (by decide +kernel) ⟨Nat.le_of_ble_eq_true rfl, Nat.le_of_ble_eq_true rfl⟩ ⟨by show cs + 509 + 2 + 2 + 272 ≤ 849423; omega, by show ss + 3074 + 10 + 10 + 1632 ≤ 6553199; omega⟩ (z_spl_nil _) rfl rfl (Nat.le_of_ble_eq_true rfl) rfl (fun rv w9 hq => ?_)
      obtain ⟨rfl, x1, x2, rfl, k1, k2⟩ := hq
      refine z_ws (x1 ++ x2) rfl ?_
      refine z_if_eq (pc' := 269) (tgt := 273) dL_law_266 (by decide) (by decide) rfl (fun q => absurd q (by decide)) (fun _ => ?_)
      refine z_iconst (pc' := 270) dL_law_269 rfl ?_
      refine z_goto (tgt := 274) dL_law_270 (by decide) ?_
      refine z_istore_n (pc' := 275) [(3, .int (zi (1 : Int))), (4, .int (zi ((ow B' : Nat) : Int))), (8, .int (zi d)), (7, .int (zi (y : Int))), (6, .int (zi (x : Int))), (0, .ref (J 7)), (1, .ref a1), (2, .ref a2), (5, .int (zi (k : Int)))] dL_law_274 rfl (by decide) rfl rfl ?_
      refine z_iinc (pc' := 278) (n := 1) (x := (k : Int)) [(5, .int (zi ((k : Int) + (1 : Int)))), (3, .int (zi (1 : Int))), (4, .int (zi ((ow B' : Nat) : Int))), (8, .int (zi d)), (7, .int (zi (y : Int))), (6, .int (zi (x : Int))), (0, .ref (J 7)), (1, .ref a1), (2, .ref a2)] 8 dL_law_275 rfl (by decide) rfl rfl ?_
      refine z_goto (tgt := 51) dL_law_278 (by decide) ?_
      refine z_lv [(0, .ref (J 7)), (1, .ref a1), (2, .ref a2), (3, .int (zi (1 : Int))), (4, .int (zi ((ow B' : Nat) : Int))), (5, .int (zi ((k : Int) + (1 : Int))))] [6, 7, 8, 1, 2, 0] rfl ?_
      refine z_widen (cs + 785) (ss + 4726) (by omega) (by omega) ?_
      have hnext := next C2 x1 x2 WC2 k1 k2
      rw [hC2.2, hC1.2] at hnext
      exact hnext
    refine z_iload (pc' := 111) 2 dL_law_109 rfl rfl ?_
    refine z_bipush (pc' := 113) dL_law_111 (by decide) rfl ?_
    refine z_iand (pc' := 114) dL_law_113 rfl ?_
    have ha : zand (x : Int) (15 : Int) = ((x &&& 15 : Nat) : Int) := bi_and (y := 15) (by omega)
    have ha2 : x &&& 15 ≤ 15 := Nat.and_le_right
    have hs : zshr (x : Int) (4 : Int) = ((x / 16 : Nat) : Int) := bi_shr4 (by omega)
    have d4 : zdiv ((x / 16 : Nat) : Int) (4 : Int) = ((x / 16 / 4 : Nat) : Int) := dv_n _ 4
    have m31 := zmod_rng (x := ((x / 16 : Nat) : Int)) (m := 31) (by decide)
    refine z_if_ne (pc' := 117) (tgt := 140) dL_law_114 (by decide) (by omega) rfl (fun q => ?_) (fun q => ?_)
    · have eo := hg2 (fun z => q z.1)
      rw [eo] at J142
      refine z_iload (pc' := 142) 7 dL_law_140 rfl rfl ?_
      exact J142
    · refine z_iload (pc' := 119) 2 dL_law_117 rfl rfl ?_
      refine z_iconst (pc' := 120) dL_law_119 rfl ?_
      refine z_ishr (pc' := 121) dL_law_120 rfl ?_
      refine z_bipush (pc' := 123) dL_law_121 (by decide) rfl ?_
      refine z_irem (pc' := 124) dL_law_123 (by rw [hs]; omega) (by decide) (by decide) rfl ?_
      refine z_if_eq (pc' := 127) (tgt := 140) dL_law_124 (by decide) (by rw [hs]; omega) rfl (fun q2 => ?_) (fun q2 => ?_)
      · have eo := hg2 (fun z => z.2 q2)
        rw [eo] at J142
        refine z_iload (pc' := 142) 7 dL_law_140 rfl rfl ?_
        exact J142
      · rw [hg1 q q2] at J142
        refine z_iconst (pc' := 128) dL_law_127 rfl ?_
        refine z_iload (pc' := 130) 2 dL_law_128 rfl rfl ?_
        refine z_iconst (pc' := 131) dL_law_130 rfl ?_
        refine z_ishr (pc' := 132) dL_law_131 rfl ?_
        refine z_iconst (pc' := 133) dL_law_132 rfl ?_
        refine z_idiv (pc' := 134) dL_law_133 (by rw [hs]; omega) (by decide) (by decide) rfl ?_
        refine z_iconst (pc' := 135) dL_law_134 rfl ?_
        refine z_irem (pc' := 136) dL_law_135 (by rw [hs, d4]; omega) (by decide) (by decide) rfl ?_
        refine z_iadd (pc' := 137) dL_law_136 rfl ?_
        refine z_goto (tgt := 142) dL_law_137 (by decide) ?_
        exact J142
  refine z_iload (pc' := 86) 7 dL_law_84 rfl rfl ?_
  refine z_bipush (pc' := 88) dL_law_86 (by decide) rfl ?_
  refine z_irem (pc' := 89) dL_law_88 (by omega) (by decide) (by decide) rfl ?_
  have m6 := zmod_rng (x := (k : Int)) (m := 6) (by decide)
  refine z_if_ne (pc' := 92) (tgt := 99) dL_law_89 (by decide) (by omega) rfl (fun q => ?_) (fun q => ?_)
  · exact J99 x (by omega)
  · have hz := zand_l (x := x) (by omega) (-16)
    obtain ⟨x', hx'⟩ : ∃ z : Nat, zand (x : Int) (-16) = (z : Int) := ⟨(zand (x : Int) (-16)).toNat, by omega⟩
    refine z_iload (pc' := 94) 1 dL_law_92 rfl rfl ?_
    refine z_bipush (pc' := 96) dL_law_94 (by decide) rfl ?_
    refine z_iand (pc' := 97) dL_law_96 rfl ?_
    rw [hx']
    refine z_istore (pc' := 99) [(6, .int (zi (x' : Int))), (7, .int (zi (y : Int))), (0, .ref (J 7)), (1, .ref a1), (2, .ref a2), (3, .int (zi (1 : Int))), (4, .int (zi ((ow B : Nat) : Int))), (5, .int (zi (k : Int)))] dL_law_97 (by decide) rfl rfl ?_
    refine z_lv [(7, .int (zi (y : Int))), (6, .int (zi (x' : Int))), (0, .ref (J 7)), (1, .ref a1), (2, .ref a2), (3, .int (zi (1 : Int))), (4, .int (zi ((ow B : Nat) : Int))), (5, .int (zi (k : Int)))] [1, 0, 2, 3, 4, 5, 6, 7] rfl ?_
    exact J99 x' (by omega)
end LW
