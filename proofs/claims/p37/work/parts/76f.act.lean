/-! THE LAW'S METHODS OVER THE OBJECT: one action -/
theorem bi_shr4 {x : Nat} (hx : x < 2 ^ 31) : zshr (x : Int) (4 : Int) = ((x / 16 : Nat) : Int) := by
  unfold zshr
  have hk : (((zi (4 : Int) &&& 31 : Int32).toBitVec.smod 32)).toNat = 4 := by decide
  have h1 : (zi (x : Int) >>> (zi (4 : Int) &&& 31)).toInt = ((zi (x : Int)).toBitVec.sshiftRight 4).toInt := by
    show ((zi (x : Int)).toBitVec.sshiftRight (((zi (4 : Int) &&& 31 : Int32).toBitVec.smod 32)).toNat).toInt = _
    rw [hk]
  have h2 : (zi (x : Int)).toBitVec.toInt = (x : Int) := by
    have := nI_toInt hx
    rw [← bi_nI] at this
    exact this
  rw [h1, BitVec.toInt_sshiftRight, h2, Int.shiftRight_eq_div_pow]
  rfl
section AC
variable {A : zO} {b : Int}
theorem op_draw (W : zOK b A) (hb : 0 ≤ b ∧ b ≤ 80000) {p : Nat} (hp : p < onn A) : ∃ q : Int × zO, kx_draw A (p : Int) = some q ∧ zOK (b + 12) q.2 ∧ ow q.2 = ow A := by
  have W9 := W.mono (b' := 90000) (by omega)
  have hn := W.n16
  have rp : i32 (p : Int) := ⟨by omega, by omega⟩
  unfold kx_draw f_draw
  rw [kx_t (by exact ⟨W9, rp⟩), fi_t (isP_nat hp)]
  by_cases c : 0 < v_slack A (p : Int)
  · rw [if_pos c]
    refine ⟨_, rfl, ?_, rfl⟩
    unfold v_slack at c
    rw [Int.toNat_natCast] at c
    show zOK (b + 12) (s_act A (ab_take (oa A) (p : Int).toNat))
    rw [Int.toNat_natCast]
    exact s_act_ok W (by omega) ((ab_take_wf W.wf hp c).mono (by omega))
  · rw [if_neg c]
    exact ⟨_, rfl, W.mono (by omega), rfl⟩
theorem op_flip (W : zOK b A) (p : Int) : zOK (b + 12) (s_flip A p) := s_act_ok W (by omega) ((ab_flip_wf W.wf p.toNat).mono (by omega))
theorem op_hang (W : zOK b A) (hb : 0 ≤ b ∧ b ≤ 80000) {p : Nat} (hp : p < onn A) : ∃ q : Int × zO, kx_hang A (p : Int) = some q ∧ zOK (b + 12) q.2 ∧ ow q.2 = ow A := by
  have W9 := W.mono (b' := 90000) (by omega)
  have hn := W.n16
  have rp : i32 (p : Int) := ⟨by omega, by omega⟩
  unfold kx_hang f_hang
  rw [kx_t (by exact ⟨W9, rp⟩), fi_t (isP_nat hp)]
  by_cases c : ab_hg (oa A) (p : Int).toNat = true
  · rw [if_pos c]
    exact ⟨_, rfl, W.mono (by omega), rfl⟩
  · rw [if_neg c]
    exact ⟨_, rfl, op_flip W _, rfl⟩
theorem op_release (W : zOK b A) (hb : 0 ≤ b ∧ b ≤ 80000) {p : Nat} (hp : p < onn A) : ∃ q : Int × zO, kx_release A (p : Int) = some q ∧ zOK (b + 12) q.2 ∧ ow q.2 = ow A := by
  have W9 := W.mono (b' := 90000) (by omega)
  have hn := W.n16
  have rp : i32 (p : Int) := ⟨by omega, by omega⟩
  unfold kx_release f_release
  rw [kx_t (by exact ⟨W9, rp⟩), fi_t (isP_nat hp)]
  by_cases c : ab_hg (oa A) (p : Int).toNat = true
  · rw [if_pos c]
    exact ⟨_, rfl, op_flip W _, rfl⟩
  · rw [if_neg c]
    exact ⟨_, rfl, W.mono (by omega), rfl⟩
theorem op_byOrder (W : zOK b A) (hb : 0 ≤ b ∧ b ≤ 80000) {k : Int} (hk : 1 ≤ k ∧ k ≤ 12) : ∃ q : Int × zO, kn_byOrder A k = some q ∧ zOK (b + 12) q.2 ∧ ow q.2 = ow A := by
  have W9 := W.mono (b' := 90000) (by omega)
  unfold kn_byOrder
  rw [kx_t (by exact ⟨W9, by omega, by omega⟩)]
  refine ⟨_, rfl, ?_, rfl⟩
  exact s_act_ok W (by omega) ((ab_go_rng k.toNat b (oa A) W.wf).2.mono (by omega))
theorem op_add (W : zOK b A) (hb : 0 ≤ b ∧ b ≤ 80000) {p : Nat} (hp : p < onn A) {x y : Int} (hx : 1 ≤ x ∧ x ≤ 9) (hy : 0 ≤ y ∧ y ≤ 9) : ∃ q : Int × zO, kx_add A (p : Int) x y = some q ∧ zOK (b + 12) q.2 ∧ ow q.2 = ow A := by
  have W9 := W.mono (b' := 90000) (by omega)
  have hn := W.n16
  have rp : i32 (p : Int) := ⟨by omega, by omega⟩
  have rx : i32 x := ⟨by omega, by omega⟩
  have ry : i32 y := ⟨by omega, by omega⟩
  unfold kx_add f_add
  rw [kx_t (by exact ⟨W9, rp, rx, ry⟩), fi_t (isP_nat hp), if_pos (by exact ⟨hx, hy⟩)]
  by_cases c : (ab_col (oa A) (p : Int).toNat).length < 6
  · rw [if_pos c]
    exact ⟨_, rfl, s_act_ok W (by omega) ((ab_add_wf W.wf c hx hy).mono (by omega)), rfl⟩
  · rw [if_neg c]
    exact ⟨_, rfl, W.mono (by omega), rfl⟩
theorem op_setBound (W : zOK b A) (hb : 0 ≤ b ∧ b ≤ 80000) {l : Int} (hl : 1 ≤ l ∧ l ≤ 6) : ∃ q : Int × zO, kx_setBound A l = some q ∧ zOK (b + 12) q.2 ∧ ow q.2 = ow A := by
  have W9 := W.mono (b' := 90000) (by omega)
  have rl : i32 l := ⟨by omega, by omega⟩
  unfold kx_setBound f_setBound
  rw [kx_t (by exact ⟨W9, rl⟩), if_pos (by omega)]
  by_cases c : ab_fits (onn A) (ow A) (oa A) l = true
  · rw [if_pos c]
    exact ⟨_, rfl, s_act_ok W (by omega) ((ab_lims_wf W.wf c (by omega)).mono (by omega)), rfl⟩
  · rw [if_neg c]
    exact ⟨_, rfl, W.mono (by omega), rfl⟩
theorem op_undo (W : zOK b A) (hb : 0 ≤ b ∧ b ≤ 80000) : ∃ q : Int × zO, kx_undo A = some q ∧ zOK (b + 12) q.2 ∧ ow q.2 = ow A := by
  have W9 := W.mono (b' := 90000) (by omega)
  unfold kx_undo f_undo
  rw [kx_t W9]
  by_cases c : 0 < oc A
  · rw [if_pos c]
    exact ⟨_, rfl, (s_undo_ok W c).mono (by omega), rfl⟩
  · rw [if_neg c]
    exact ⟨_, rfl, W.mono (by omega), rfl⟩
theorem op_save (W : zOK b A) (hb : 0 ≤ b ∧ b ≤ 80000) {s : Int} (hs : 0 ≤ s ∧ s ≤ 1) : ∃ q : Int × zO, kn_save A s = some q ∧ zOK (b + 12) q.2 ∧ ow q.2 = ow A := by
  have W9 := W.mono (b' := 90000) (by omega)
  unfold kn_save
  rw [kx_t (by exact ⟨W9, hs.1, hs.2⟩)]
  refine ⟨_, rfl, ?_, rfl⟩
  have WS : zOK b (s_save A s) := by
    refine ⟨W.1, W.2.1, W.wf, W.2.2.2.1, fun t a ht => ?_⟩
    have ht : (if t = s.toNat then some (oa A) else os A t) = some a := ht
    split at ht
    · cases ht; exact W.wf
    · exact W.2.2.2.2 t a ht
  exact WS.mono (by omega)
theorem op_restore (W : zOK b A) (hb : 0 ≤ b ∧ b ≤ 80000) {s : Int} (hs : 0 ≤ s ∧ s ≤ 1) : ∃ q : Int × zO, kx_restore A s = some q ∧ zOK (b + 12) q.2 ∧ ow q.2 = ow A := by
  have W9 := W.mono (b' := 90000) (by omega)
  have rs : i32 s := ⟨by omega, by omega⟩
  unfold kx_restore f_restore
  rw [kx_t (by exact ⟨W9, rs⟩), if_pos hs]
  cases e : os A s.toNat with
  | none => exact ⟨_, rfl, W.mono (by omega), rfl⟩
  | some a =>
    refine ⟨_, rfl, ?_, rfl⟩
    have WS : zOK b (s_restore A a) := ⟨W.1, W.2.1, W.2.2.2.2 _ a e, fun i hi => absurd hi (Nat.not_lt_zero i), W.2.2.2.2⟩
    exact WS.mono (by omega)
theorem act_ok (W : zOK b A) (hb : 0 ≤ b ∧ b ≤ 80000) {F x y : Nat} (hF : 20 ≤ F) (hx : x ≤ 2147483647) (hy : y ≤ 2147483647) : ∃ (r : Int) (A' : zO), sh_L_act F A (x : Int) (y : Int) = some (r, A') ∧ zOK (b + 12) A' ∧ (zand (x : Int) (15 : Int) = 0 → ¬ zmod (zshr (x : Int) (4 : Int)) (31 : Int) = 0 → ((ow A' : Nat) : Int) = (1 : Int) + (zmod (zdiv (zshr (x : Int) (4 : Int)) (4 : Int)) (4 : Int))) ∧ (¬ (zand (x : Int) (15 : Int) = 0 ∧ ¬ zmod (zshr (x : Int) (4 : Int)) (31 : Int) = 0) → ow A' = ow A) := by
  have W9 := W.mono (b' := 90000) (by omega)
  have hn := W.n16
  have n1 := W.n1
  have e0 : kd_pointCount A = some ((onn A : Nat) : Int) := by unfold kd_pointCount; rw [kx_t W9]
  have my : zmod (y : Int) ((onn A : Nat) : Int) = ((y % onn A : Nat) : Int) := md_n y (onn A)
  have hp : y % onn A < onn A := Nat.mod_lt _ (by omega)
  have hs : zshr (x : Int) (4 : Int) = ((x / 16 : Nat) : Int) := bi_shr4 (by omega)
  have ha : zand (x : Int) (15 : Int) = ((x &&& 15 : Nat) : Int) := bi_and (y := 15) (by omega)
  have ha2 : x &&& 15 ≤ 15 := Nat.and_le_right
  have hy1 : zand (y : Int) (1 : Int) = ((y &&& 1 : Nat) : Int) := bi_and (y := 1) (by omega)
  have hy2 : y &&& 1 ≤ 1 := Nat.and_le_right
  have d16 : zdiv (y : Int) (16 : Int) = ((y / 16 : Nat) : Int) := dv_n y 16
  have d144 : zdiv (y : Int) (144 : Int) = ((y / 144 : Nat) : Int) := dv_n y 144
  have m12 : zmod ((y / 16 : Nat) : Int) (12 : Int) = ((y / 16 % 12 : Nat) : Int) := md_n _ 12
  have m9 : zmod ((y / 16 : Nat) : Int) (9 : Int) = ((y / 16 % 9 : Nat) : Int) := md_n _ 9
  have m6 : zmod ((y / 16 : Nat) : Int) (6 : Int) = ((y / 16 % 6 : Nat) : Int) := md_n _ 6
  have m10 : zmod ((y / 144 : Nat) : Int) (10 : Int) = ((y / 144 % 10 : Nat) : Int) := md_n _ 10
  have m3 := zmod_rng (x := (y : Int)) (m := 3) (by decide)
  have q144 : y / 144 % 10 < 10 := Nat.mod_lt _ (by decide)
  unfold sh_L_act
  rw [e0, Option.bind_some, my, zkr_t (by omega) (by omega), zkc_t (by omega), zkr_t (by omega) (by omega)]
  by_cases c0 : zand (x : Int) (15 : Int) = 0
  · rw [if_pos c0, hs]
    obtain ⟨r, A', e, w1, w2, w3⟩ := loadText_ok W9 W hb (F := F) (x := x / 16) (y := y) hF (by omega) hy
    refine ⟨r, A', by rw [e]; rfl, w1, fun _ h => w3 h, fun h => ?_⟩
    by_cases c : zmod ((x / 16 : Nat) : Int) (31 : Int) = 0
    · exact (w2 c).2
    · exact absurd ⟨c0, c⟩ h
  have fin : ∀ o : Option (Int × zO), (∃ q : Int × zO, o = some q ∧ zOK (b + 12) q.2 ∧ ow q.2 = ow A) → ∃ (r : Int) (A' : zO), (o.bind (fun (q : Int × zO) => some (q.1, q.2))) = some (r, A') ∧ zOK (b + 12) A' ∧ (zand (x : Int) (15 : Int) = 0 → ¬ zmod (zshr (x : Int) (4 : Int)) (31 : Int) = 0 → ((ow A' : Nat) : Int) = (1 : Int) + (zmod (zdiv (zshr (x : Int) (4 : Int)) (4 : Int)) (4 : Int))) ∧ (¬ (zand (x : Int) (15 : Int) = 0 ∧ ¬ zmod (zshr (x : Int) (4 : Int)) (31 : Int) = 0) → ow A' = ow A) := by
    rintro o ⟨q, rfl, w1, w2⟩
    exact ⟨q.1, q.2, rfl, w1, fun h => absurd h c0, fun _ => w2⟩
  rw [if_neg c0]
  by_cases c1 : zand (x : Int) (15 : Int) = 1
  · rw [if_pos c1]; exact fin _ (op_draw W hb hp)
  rw [if_neg c1]
  by_cases c2 : zand (x : Int) (15 : Int) = 2
  · rw [if_pos c2]; exact fin _ (op_draw W hb hp)
  rw [if_neg c2]
  by_cases c3 : zand (x : Int) (15 : Int) = 3
  · rw [if_pos c3]; exact fin _ (op_draw W hb hp)
  rw [if_neg c3]
  by_cases c4 : zand (x : Int) (15 : Int) = 4
  · rw [if_pos c4]; exact fin _ (op_draw W hb hp)
  rw [if_neg c4]
  by_cases c5 : zand (x : Int) (15 : Int) = 5
  · rw [if_pos c5, d16, m12, zkr_t (by omega) (by omega)]; exact fin _ (op_byOrder W hb (by omega))
  rw [if_neg c5]
  by_cases c6 : zand (x : Int) (15 : Int) = 6
  · rw [if_pos c6, d16, m12, zkr_t (by omega) (by omega)]; exact fin _ (op_byOrder W hb (by omega))
  rw [if_neg c6]
  by_cases c7 : zand (x : Int) (15 : Int) = 7
  · rw [if_pos c7, d16, m12, zkr_t (by omega) (by omega)]; exact fin _ (op_byOrder W hb (by omega))
  rw [if_neg c7]
  by_cases c8 : zand (x : Int) (15 : Int) = 8
  · rw [if_pos c8]; exact fin _ (op_hang W hb hp)
  rw [if_neg c8]
  by_cases c9 : zand (x : Int) (15 : Int) = 9
  · rw [if_pos c9]; exact fin _ (op_release W hb hp)
  rw [if_neg c9]
  by_cases c10 : zand (x : Int) (15 : Int) = 10
  · rw [if_pos c10, d16, d144, m9, m10, zkr_t (by omega) (by omega), zkr_t (by omega) (by omega)]; exact fin _ (op_add W hb hp (by omega) (by omega))
  rw [if_neg c10]
  by_cases c11 : zand (x : Int) (15 : Int) = 11
  · rw [if_pos c11, d16, d144, m9, m10, zkr_t (by omega) (by omega), zkr_t (by omega) (by omega)]; exact fin _ (op_add W hb hp (by omega) (by omega))
  rw [if_neg c11]
  by_cases c12 : zand (x : Int) (15 : Int) = 12
  · rw [if_pos c12, d16, d144, m9, m10, zkr_t (by omega) (by omega), zkr_t (by omega) (by omega)]; exact fin _ (op_add W hb hp (by omega) (by omega))
  rw [if_neg c12]
  by_cases c13 : zand (x : Int) (15 : Int) = 13
  · rw [if_pos c13, zkr_t (by omega) (by omega)]
    by_cases d : zmod (y : Int) (3 : Int) = 0
    · rw [if_pos d]; exact fin _ (op_undo W hb)
    · rw [if_neg d, d16, m6, zkr_t (by omega) (by omega)]; exact fin _ (op_setBound W hb (by omega))
  rw [if_neg c13]
  by_cases c14 : zand (x : Int) (15 : Int) = 14
  · rw [if_pos c14, hy1]; exact fin _ (op_save W hb (by omega))
  rw [if_neg c14, hy1]
  exact fin _ (op_restore W hb (by omega))
end AC
