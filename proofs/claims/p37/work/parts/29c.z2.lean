/-! MORE ROWS OF Z: contracts weakened, worlds of two parts, values of a choice, the law's one string -/
theorem zQ.post {D : va_G} {J : Nat → ClassId} {A : Nat → Prop} {Pr Pr' : Option Value → va_W → Prop} (hp : ∀ rv w, Pr rv w → Pr' rv w) {a : Array Value} {st t : State} {o : Outcome} (h : zQ D J A Pr a st o t) : zQ D J A Pr' a st o t := by
  obtain ⟨⟨rv, w, h1, h2, h3⟩, h4⟩ := h
  exact ⟨⟨rv, w, h1, hp _ _ h2, h3⟩, h4⟩
theorem ZM.post {l : Launch} {D : va_G} {J : Nat → ClassId} {y : MethodName} {wsy : List Cond} {rm : Room} {mc ms : Nat} {av : List Value} {wc : va_W} {Pr Pr' : Option Value → va_W → Prop} (h : ZM l D J y wsy rm mc ms av wc Pr) (hp : ∀ rv w, Pr rv w → Pr' rv w) : ZM l D J y wsy rm mc ms av wc Pr' := by
  intro hst sz
  exact MetFree.mono (h hst sz) (fun _ _ q => q) (fun _ _ _ _ _ q => q) (fun a s o t _ q => ⟨q.1.post hp, q.2⟩)
theorem ZMx.post {l : Launch} {D : va_G} {J : Nat → ClassId} {y : MethodName} {wsy : List Cond} {rm : Room} {mc ms : Nat} {av : List Value} {wc : va_W} {Pr Pr' : Option Value → va_W → Prop} {Px : String → va_W → Prop} (h : ZMx l D J y wsy rm mc ms av wc Pr Px) (hp : ∀ rv w, Pr rv w → Pr' rv w) : ZMx l D J y wsy rm mc ms av wc Pr' Px := by
  intro hst sz
  refine MetFree.mono (h hst sz) (fun _ _ q => q) (fun _ _ _ _ _ q => q) (fun a s o t _ q => ?_)
  rcases q with q | q
  · exact Or.inl ⟨q.1.post hp, q.2⟩
  · exact Or.inr q
theorem z_spl_id (a b : va_W) : z_spl (a ++ b) a b := ⟨fun k => k, fun _ _ h => h, fun _ _ _ _ h => h⟩
theorem z_spl_nil (a : va_W) : z_spl a a [] := ⟨fun k => k, fun k q h => by rwa [List.append_nil] at h, fun _ _ _ _ h => h⟩
theorem z_spl_sw (a b : va_W) : z_spl (a ++ b) b a := by
  refine ⟨fun k => if k < b.length then a.length + k else k - b.length, fun k q hk => ?_, fun i j hi hj he => ?_⟩
  · by_cases h : k < b.length
    · rw [List.getElem?_append_left h] at hk
      show (a ++ b)[if k < b.length then a.length + k else k - b.length]? = some q
      rw [if_pos h, List.getElem?_append_right (Nat.le_add_right _ _), Nat.add_sub_cancel_left]
      exact hk
    · rw [List.getElem?_append_right (by omega)] at hk
      have hl := (List.getElem?_eq_some_iff.mp hk).1
      show (a ++ b)[if k < b.length then a.length + k else k - b.length]? = some q
      rw [if_neg h, List.getElem?_append_left hl]
      exact hk
  · rw [List.length_append] at hi hj
    have he : (if i < b.length then a.length + i else i - b.length) = (if j < b.length then a.length + j else j - b.length) := he
    split at he <;> split at he <;> omega
theorem z_pmin {G : Prop} {c : Prop} [Decidable c] {u v : Int} (K : Int → Prop) (br : (c → K u) → (¬ c → K v) → G) (kk : K (if c then u else v)) : G := br (fun h => by rwa [if_pos h] at kk) (fun h => by rwa [if_neg h] at kk)
section ZY
variable {p : Program} {l : Launch} {e : Env} {R : Room} {s : State} {m : MethodId} {args : Array Value} {below : List Frame} {meth : Method} {c : Code} {Q : State → Prop} {cc : ByteArray} {nL : Nat} {Ts : List Cond} {own : String} {D : va_G} {J : Nat → ClassId} {A : Nat → Prop} {ret : Option FieldType} {nm : String × List ExceptionTableEntry} {cells slots : Nat} {ws : va_W} {lv : List (Nat × Value)} {pc pc' : Nat} {st rest : List Value}
theorem z_drop {c0 : Nat × va_E} (kk : Z p l e R s m args below meth c Q cc nL Ts own D J A ret nm cells slots ws lv pc st) : Z p l e R s m args below meth c Q cc nL Ts own D J A ret nm cells slots (c0 :: ws) lv pc st := by
  intro H locs ls X hP hD hS hl
  have hd := zD_mem.mp hD
  rw [List.map_cons] at hd
  exact kk H locs ls X (zP_mem.mpr (fun q hq => zP_mem.mp hP q (List.mem_cons_of_mem _ hq))) (zD_mem.mpr ⟨(List.nodup_cons.mp hd.1).2, fun q hq => hd.2 q (List.mem_cons_of_mem _ hq)⟩) hS hl
def zshr (x y : Int) : Int := (zi x >>> (zi y &&& 31)).toInt
theorem z_ishr {x y : Int} (d : decode cc pc = .ok (.ishr, 1)) (hpc : pc + 1 = pc') (kk : Z p l e R s m args below meth c Q cc nL Ts own D J A ret nm cells slots ws lv pc' (.int (zi (zshr x y)) :: rest)) : Z p l e R s m args below meth c Q cc nL Ts own D J A ret nm cells slots ws lv pc (.int (zi y) :: .int (zi x) :: rest) := by
  intro H locs ls X hP hD hS hl
  obtain ⟨⟨hx, hb, hml, hown, hts⟩, ⟨hK, hG⟩, hA, hr, hlk, hnm, het, hHH, hst0⟩ := id X
  subst hpc
  have kk := kk H locs ls X hP hD hS hl
  rw [show zi (zshr x y) = _ from Int32.ofInt_toInt _] at kk
  exact lv_ishr hx hb d kk
theorem z_ldcS {i : Nat} {tx : String} (how : own = RL) (hi : i = 184) (htx : tx = "D;10x5") (d : decode cc pc = .ok (.ldc i, 2)) (hpc : pc + 2 = pc') (kk : Z p l e R s m args below meth c Q cc nL Ts own D J A ret nm cells slots ws lv pc' (.ref (J 8) :: rest)) : Z p l e R s m args below meth c Q cc nL Ts own D J A ret nm cells slots ws lv pc rest := by
  intro H locs ls X hP hD hS hl
  obtain ⟨⟨hx, hb, hml, hown, hts⟩, ⟨hK, hG⟩, hA, hr, hlk, hnm, het, hHH, hst0⟩ := id X
  subst hpc; subst how; subst hi; subst htx
  exact va_ldcS hx hb hown hG.2.2.2.2.2.2 d (kk H locs ls X hP hD hS hl)
theorem z_getCS {i : Nat} (d : decode cc pc = .ok (.getstatic i, 3)) (hlk : Cond.fieldLink own i "java/lang/String" "COMPACT_STRINGS" "Z" ∈ Ts) (hpc : pc + 3 = pc') (kk : Z p l e R s m args below meth c Q cc nL Ts own D J A ret nm cells slots ws lv pc' (.int (zi 1) :: rest)) : Z p l e R s m args below meth c Q cc nL Ts own D J A ret nm cells slots ws lv pc rest := by
  intro H locs ls X hP hD hS hl
  obtain ⟨⟨hx, hb, hml, hown, hts⟩, ⟨hK, hG⟩, hA, hr, -, hnm, het, hHH, hst0⟩ := id X
  subst hpc
  exact va_gets hx hb hHH.2.2.2.1 hS hown (hts _ hlk) (fun _ h => h) d (kk H locs ls X hP hD hS hl)
theorem z_getSF {i : Nat} (d : decode cc pc = .ok (.getstatic i, 3)) (hlk : Cond.fieldLink own i "jdk/internal/util/Preconditions" "SIOOBE_FORMATTER" "Ljava/util/function/BiFunction;" ∈ Ts) (hpc : pc + 3 = pc') (kk : ∀ v : Value, (v = .null ∨ ∃ t : Nat, v = .ref t) → Z p l e R s m args below meth c Q cc nL Ts own D J A ret nm cells slots ws lv pc' (v :: rest)) : Z p l e R s m args below meth c Q cc nL Ts own D J A ret nm cells slots ws lv pc rest := by
  intro H locs ls X hP hD hS hl
  obtain ⟨⟨hx, hb, hml, hown, hts⟩, ⟨hK, hG⟩, hA, hr, -, hnm, het, hHH, hst0⟩ := id X
  subst hpc
  rcases hHH.2.2.2.2.1 with h | ⟨t, h⟩
  · exact va_gets hx hb h hS hown (hts _ hlk) (fun _ h => h) d (kk .null (Or.inl rfl) H locs ls X hP hD hS hl)
  · exact va_gets hx hb h hS hown (hts _ hlk) (fun _ h => h) d (kk (.ref t) (Or.inr ⟨t, rfl⟩) H locs ls X hP hD hS hl)
theorem z_getcoder {i : Nat} (d : decode cc pc = .ok (.getfield i, 3)) (hlk : Cond.fieldLink own i "java/lang/String" "coder" "B" ∈ Ts) (hpc : pc + 3 = pc') (kk : Z p l e R s m args below meth c Q cc nL Ts own D J A ret nm cells slots ws lv pc' (.int (zi 0) :: rest)) : Z p l e R s m args below meth c Q cc nL Ts own D J A ret nm cells slots ws lv pc (.ref (J 8) :: rest) := by
  intro H locs ls X hP hD hS hl
  obtain ⟨⟨hx, hb, hml, hown, hts⟩, ⟨hK, hG⟩, hA, hr, -, hnm, het, hHH, hst0⟩ := id X
  subst hpc
  exact vk_getf hx hb (hHH.2.2.1.1 0 (by decide)).2.1 hS hown (hts _ hlk) (fun _ h => h) d (kk H locs ls X hP hD hS hl)
theorem z_getvalue {i : Nat} (d : decode cc pc = .ok (.getfield i, 3)) (hlk : Cond.fieldLink own i "java/lang/String" "value" "[B" ∈ Ts) (hpc : pc + 3 = pc') (kk : Z p l e R s m args below meth c Q cc nL Ts own D J A ret nm cells slots ws lv pc' (.ref (J 9) :: rest)) : Z p l e R s m args below meth c Q cc nL Ts own D J A ret nm cells slots ws lv pc (.ref (J 8) :: rest) := by
  intro H locs ls X hP hD hS hl
  obtain ⟨⟨hx, hb, hml, hown, hts⟩, ⟨hK, hG⟩, hA, hr, -, hnm, het, hHH, hst0⟩ := id X
  subst hpc
  exact vk_getf hx hb (hHH.2.2.1.1 0 (by decide)).2.2.1 hS hown (hts _ hlk) (fun _ h => h) d (kk H locs ls X hP hD hS hl)
theorem z_alenS (d : decode cc pc = .ok (.arraylength, 1)) (hpc : pc + 1 = pc') (kk : Z p l e R s m args below meth c Q cc nL Ts own D J A ret nm cells slots ws lv pc' (.int (zi 6) :: rest)) : Z p l e R s m args below meth c Q cc nL Ts own D J A ret nm cells slots ws lv pc (.ref (J 9) :: rest) := by
  intro H locs ls X hP hD hS hl
  obtain ⟨⟨hx, hb, hml, hown, hts⟩, ⟨hK, hG⟩, hA, hr, -, hnm, het, hHH, hst0⟩ := id X
  subst hpc
  exact va_tlen (v := zi 6) hx hb (hHH.2.2.1.1 0 (by decide)).2.2.2 hS rfl d (kk H locs ls X hP hD hS hl)
def zstr : List Int := [68, 59, 49, 48, 120, 53]
theorem z_baloadS {x : Nat} (hx6 : x < 6) (d : decode cc pc = .ok (.baload, 1)) (hpc : pc + 1 = pc') (kk : Z p l e R s m args below meth c Q cc nL Ts own D J A ret nm cells slots ws lv pc' (.int (zi (zstr.getD x 0)) :: rest)) : Z p l e R s m args below meth c Q cc nL Ts own D J A ret nm cells slots ws lv pc (.int (zi (x : Int)) :: .ref (J 9) :: rest) := by
  intro H locs ls X hP hD hS hl
  obtain ⟨⟨hx, hb, hml, hown, hts⟩, ⟨hK, hG⟩, hA, hr, -, hnm, het, hHH, hst0⟩ := id X
  subst hpc
  refine va_tb hx hb (hHH.2.2.1.1 0 (by decide)).2.2.2 hS (zi_in (n := 6) ⟨by omega, by omega⟩ (by decide)) (v := .int (zi (zstr.getD x 0))) ?_ d (kk H locs ls X hP hD hS hl)
  rw [zi_cl (n := 6) ⟨by omega, by omega⟩ (by decide), Int.toNat_natCast]
  have : x = 0 ∨ x = 1 ∨ x = 2 ∨ x = 3 ∨ x = 4 ∨ x = 5 := by omega
  rcases this with rfl | rfl | rfl | rfl | rfl | rfl <;> rfl
theorem z_cret {Pr : Option Value → va_W → Prop} {v : Int32} (hty : ret = some .char) (hnar : narrow .char (.int v) = .int v) (d : decode cc pc = .ok (.ireturn, 1)) (hq : Pr (some (.int v)) ws) : Z p l e R s m args below meth c (MQ below (zQ D J A Pr) args s cells slots A) cc nL Ts own D J A ret nm cells slots ws lv pc [.int v] := z_zret hty hnar d hq
theorem z_callStr {y : MethodName} {wsy wsy' : List Cond} {rm : Room} {mc ms index maxL : Nat} {As : List Value} {wc wr : va_W} {Pr : Option Value → va_W → Prop} {bytes : ByteArray} {rety : Option FieldType} (n : Nat) (hM : ZM l D J y wsy rm mc ms (.ref (J 8) :: As) wc Pr) (d : decode cc pc = .ok (.invokevirtual index, 3)) (hT : GoodIn Ts (wsV own index RJ0 y wsy)) (hw : wsy = Cond.code y bytes maxL rety :: wsy') (hrc : rm.cells = mc) (hrs : rm.slots = ms)
    (hd : y.cls = RJ0 ∧ y.cls ≠ "java/lang/invoke/MethodHandle" ∧ y.cls ≠ "java/lang/invoke/VarHandle" ∧ (parseMethodDescriptor y.desc).map (fun d => d.parameters.length) = some n) (hR : rm.frames + 1 ≤ R.frames ∧ 8 + (maxL + 11) + rm.locals ≤ R.locals) (hf : cells + mc ≤ R.cells ∧ slots + ms ≤ R.slots)
    (hspl : z_spl ws wc wr) (hst : st = As.reverse ++ .ref (J 8) :: rest) (hn : As.length = n) (hcat : (rest.map fun v => v.category).sum ≤ 8) (hpc : pc + 3 = pc')
    (kk : ∀ (rv : Option Value) (w' : va_W), Pr rv w' → Z p l e R s m args below meth c Q cc nL Ts own D J A ret nm (cells + mc) (slots + ms) (wr ++ w') lv pc' (rv.toList ++ rest)) : Z p l e R s m args below meth c Q cc nL Ts own D J A ret nm cells slots ws lv pc st := by
  intro H locs ls X hP hD hS hl
  obtain ⟨⟨hx, hb, hml, hown, hts⟩, ⟨hK, hG⟩, hA, hr, hlk, hnm, het, hHH, hst0⟩ := id X
  subst hpc
  have hPc := (hspl.P hP).1
  have hDc := (z_D_app (hspl.D hD)).1
  have hF := z_free hspl hD hS hA
  refine z_call0 (va_runV (As := As) (rest := rest) ⟨hx, hb, hml, hown, hts⟩ (hM hst0 H.size) (cwV n hts hT hw hrc hrs hd hR) ⟨z_blind, vk_recv hHH.2.2.1 (i := 0) (by decide) hS, fun U hU hW => ⟨rfl, by rw [hU], by rw [hU]; exact hPc, zG.warm hW ⟨hK, hG⟩, hDc.weaken (fun _ _ _ _ => trivial), by rw [hU]; exact hHH.step hS hF hW.alike⟩⟩ rfl hn hl.1 hst (by simpa using hcat) d hf) hS (fun q _ h => hF q h) hF (fun rv w' t H1 locs1 ht hvm hp hP1 hD1 hz hk hS1 => ?_)
  obtain ⟨hP2, hD2⟩ := z_join hspl hP hD hk hF hP1 hD1
  exact kk rv w' hp H1 locs1 ls X hP2 hD2 hS1 hl
theorem z_lv (lv' : List (Nat × Value)) (ks : List Nat) (hk : lv_pick lv ks = lv') (kk : Z p l e R s m args below meth c Q cc nL Ts own D J A ret nm cells slots ws lv' pc st) : Z p l e R s m args below meth c Q cc nL Ts own D J A ret nm cells slots ws lv pc st :=
  z_permT (X := []) (T := ws) [] lv' [] ks rfl rfl hk kk
theorem z_sw {a b : va_W} (kk : Z p l e R s m args below meth c Q cc nL Ts own D J A ret nm cells slots (b ++ a) lv pc st) : Z p l e R s m args below meth c Q cc nL Ts own D J A ret nm cells slots (a ++ b) lv pc st := fun H locs ls X hP hD hS hl => by
  obtain ⟨hP2, hD2⟩ := z_ofperm (ws' := b ++ a) List.perm_append_comm hP hD
  exact kk H locs ls X hP2 hD2 hS hl
theorem z_scr (kk : ∀ (L : Nat) (xs : Nat → Int), L ≤ 2147483647 → (∀ j, -2147483648 ≤ xs j ∧ xs j ≤ 2147483647) → va_X (J 7) L (fun j => zi (xs j)) s s.heap → J 7 < s.heap.size → ¬ A (J 7) → Z p l e R s m args below meth c Q cc nL Ts own D J A ret nm cells slots ws lv pc st) : Z p l e R s m args below meth c Q cc nL Ts own D J A ret nm cells slots ws lv pc st := by
  intro H locs ls X hP hD hS hl
  obtain ⟨⟨hx, hb, hml, hown, hts⟩, ⟨hK, hG⟩, hA, hr, hlk, hnm, het, hHH, hst0⟩ := id X
  obtain ⟨L, xs, h1, h2, h3, h4, h5⟩ := hHH.2.2.2.2.2
  exact kk L xs h1 h2 h3 h4 h5 H locs ls X hP hD hS hl
end ZY
theorem z_spl_e (a : va_W) : z_spl a [] a := ⟨fun k => k, fun _ _ h => h, fun _ _ _ _ h => h⟩
def zch (k : Int) : Int := zstr.getD k.toNat 0
theorem zch_in (k : Int) : 48 ≤ zch k ∧ zch k ≤ 120 ∨ zch k = 0 := by
  unfold zch
  have : k.toNat = 0 ∨ k.toNat = 1 ∨ k.toNat = 2 ∨ k.toNat = 3 ∨ k.toNat = 4 ∨ k.toNat = 5 ∨ 6 ≤ k.toNat := by omega
  rcases this with h | h | h | h | h | h | h
  · rw [h]; decide
  · rw [h]; decide
  · rw [h]; decide
  · rw [h]; decide
  · rw [h]; decide
  · rw [h]; decide
  · exact Or.inr (by
      unfold zstr
      rw [List.getD_eq_getElem?_getD, List.getElem?_eq_none (by show 6 ≤ k.toNat; exact h)]
      rfl)
theorem zch_r (k : Int) : -2147483648 ≤ zch k ∧ zch k ≤ 2147483647 := by rcases zch_in k with h | h <;> omega
