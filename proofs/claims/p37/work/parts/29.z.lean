/-! THE JUDGEMENT Z: a method's frame over a world of cells, numbers as whole numbers (zi x = Int32.ofInt x, zl x = Int64.ofInt x) -/
abbrev zi (x : Int) : Int32 := Int32.ofInt x
abbrev zl (x : Int) : Int64 := Int64.ofInt x
abbrev zT (J : Nat → ClassId) : List (ClassId × FieldType) := [(J 0, .int), (J 1, .char), (J 2, .boolean), (J 3, .int), (J 4, .object "CaveDraw$Cave")]
abbrev zI (J : Nat → ClassId) (n : Nat) (f : Nat → Int) : va_E := .inl (J 0, n, .inl (fun j => zi (f j)))
abbrev zC (J : Nat → ClassId) (n : Nat) (f : Nat → Int) : va_E := .inl (J 1, n, .inl (fun j => zi (f j)))
abbrev zB (J : Nat → ClassId) (n : Nat) (f : Nat → Int) : va_E := .inl (J 2, n, .inl (fun j => zi (f j)))
abbrev zJ (J : Nat → ClassId) (n : Nat) (f : Nat → Int) : va_E := .inl (J 3, n, .inr (.inl (fun j => zl (f j))))
abbrev zV (J : Nat → ClassId) (n : Nat) (f : Nat → Option Nat) : va_E := .inl (J 4, n, .inr (.inr (.inr (.inr f))))
/-- checks: none where the machine would throw, or where a number isn't in its range -/
def zkr {α : Type} (x : Int) (k : Option α) : Option α := if -2147483648 ≤ x ∧ x ≤ 2147483647 then k else none
def zkl {α : Type} (x : Int) (k : Option α) : Option α := if -9223372036854775808 ≤ x ∧ x ≤ 9223372036854775807 then k else none
def zkx {α : Type} (x : Int) (n : Nat) (k : Option α) : Option α := if 0 ≤ x ∧ x < (n : Int) then k else none
def zkc {α : Type} (c : Prop) [Decidable c] (k : Option α) : Option α := if c then k else none
theorem zkr_t {α : Type} {x : Int} {k : Option α} (h1 : -2147483648 ≤ x) (h2 : x ≤ 2147483647) : zkr x k = k := if_pos ⟨h1, h2⟩
theorem zkl_t {α : Type} {x : Int} {k : Option α} (h1 : -9223372036854775808 ≤ x) (h2 : x ≤ 9223372036854775807) : zkl x k = k := if_pos ⟨h1, h2⟩
theorem zkx_t {α : Type} {x : Int} {n : Nat} {k : Option α} (h1 : 0 ≤ x) (h2 : x < (n : Int)) : zkx x n k = k := if_pos ⟨h1, h2⟩
theorem zkc_t {α : Type} {c : Prop} [Decidable c] {k : Option α} (h : c) : zkc c k = k := if_pos h
theorem zkr_p {α : Type} {x : Int} {k : Option α} {r : α} (h : zkr x k = some r) : -2147483648 ≤ x ∧ x ≤ 2147483647 := by unfold zkr at h; split at h <;> first | assumption | cases h
theorem zkr_k {α : Type} {x : Int} {k : Option α} {r : α} (h : zkr x k = some r) : k = some r := by unfold zkr at h; split at h <;> first | assumption | cases h
theorem zkl_p {α : Type} {x : Int} {k : Option α} {r : α} (h : zkl x k = some r) : -9223372036854775808 ≤ x ∧ x ≤ 9223372036854775807 := by unfold zkl at h; split at h <;> first | assumption | cases h
theorem zkl_k {α : Type} {x : Int} {k : Option α} {r : α} (h : zkl x k = some r) : k = some r := by unfold zkl at h; split at h <;> first | assumption | cases h
theorem zkx_p {α : Type} {x : Int} {n : Nat} {k : Option α} {r : α} (h : zkx x n k = some r) : 0 ≤ x ∧ x < (n : Int) := by unfold zkx at h; split at h <;> first | assumption | cases h
theorem zkx_k {α : Type} {x : Int} {n : Nat} {k : Option α} {r : α} (h : zkx x n k = some r) : k = some r := by unfold zkx at h; split at h <;> first | assumption | cases h
theorem zkc_p {α : Type} {c : Prop} [Decidable c] {k : Option α} {r : α} (h : zkc c k = some r) : c := by unfold zkc at h; split at h <;> first | assumption | cases h
theorem zkc_k {α : Type} {c : Prop} [Decidable c] {k : Option α} {r : α} (h : zkc c k = some r) : k = some r := by unfold zkc at h; split at h <;> first | assumption | cases h
theorem zif_t {α : Type} {c : Prop} [Decidable c] {a b : Option α} {r : α} (h : c) (q : (if c then a else b) = some r) : a = some r := by rwa [if_pos h] at q
theorem zif_f {α : Type} {c : Prop} [Decidable c] {a b : Option α} {r : α} (h : ¬ c) (q : (if c then a else b) = some r) : b = some r := by rwa [if_neg h] at q
theorem zbind {α β : Type} {x : Option α} {f : α → Option β} {r : β} (h : x.bind f = some r) : ∃ a, x = some a ∧ f a = some r := Option.bind_eq_some_iff.mp h
theorem zi_toInt {x : Int} (h : -2147483648 ≤ x ∧ x ≤ 2147483647) : (zi x).toInt = x := Int32.toInt_ofInt_of_le (by omega) (by omega)
theorem zl_toInt {x : Int} (h : -9223372036854775808 ≤ x ∧ x ≤ 9223372036854775807) : (zl x).toInt = x := Int64.toInt_ofInt_of_le (by omega) (by omega)
theorem zi_lt {x y : Int} (hx : -2147483648 ≤ x ∧ x ≤ 2147483647) (hy : -2147483648 ≤ y ∧ y ≤ 2147483647) : zi x < zi y ↔ x < y := by rw [Int32.lt_iff_toInt_lt, zi_toInt hx, zi_toInt hy]
theorem zi_le {x y : Int} (hx : -2147483648 ≤ x ∧ x ≤ 2147483647) (hy : -2147483648 ≤ y ∧ y ≤ 2147483647) : zi x ≤ zi y ↔ x ≤ y := by rw [Int32.le_iff_toInt_le, zi_toInt hx, zi_toInt hy]
theorem zi_eq {x y : Int} (hx : -2147483648 ≤ x ∧ x ≤ 2147483647) (hy : -2147483648 ≤ y ∧ y ≤ 2147483647) : zi x = zi y ↔ x = y := by rw [← Int32.toInt_inj, zi_toInt hx, zi_toInt hy]
theorem zl_lt {x y : Int} (hx : -9223372036854775808 ≤ x ∧ x ≤ 9223372036854775807) (hy : -9223372036854775808 ≤ y ∧ y ≤ 9223372036854775807) : zl x < zl y ↔ x < y := by rw [Int64.lt_iff_toInt_lt, zl_toInt hx, zl_toInt hy]
theorem zl_eq {x y : Int} (hx : -9223372036854775808 ≤ x ∧ x ≤ 9223372036854775807) (hy : -9223372036854775808 ≤ y ∧ y ≤ 9223372036854775807) : zl x = zl y ↔ x = y := by rw [← Int64.toInt_inj, zl_toInt hx, zl_toInt hy]
theorem zr0 : -2147483648 ≤ (0 : Int) ∧ (0 : Int) ≤ 2147483647 := by decide
theorem zi_in {x : Int} {n : Nat} (h : 0 ≤ x ∧ x < (n : Int)) (hn : n ≤ 2147483647) : vp_in (zi x) n := by
  rw [vp_in_iff, zi_toInt (by omega)]; exact h
theorem zi_cl {x : Int} {n : Nat} (h : 0 ≤ x ∧ x < (n : Int)) (hn : n ≤ 2147483647) : (zi x).toNatClampNeg = x.toNat := Int32.toNatClampNeg_ofInt_of_le (by omega) (by omega)
theorem zup_i (f : Nat → Int) (k : Nat) (v : Int) : upd (fun j => zi (f j)) k (zi v) = fun j => zi (va_up f k v j) := by
  funext j; unfold upd va_up; by_cases h : j = k
  · rw [if_pos h, if_pos h]
  · rw [if_neg h, if_neg h]
theorem zup_l (f : Nat → Int) (k : Nat) (v : Int) : vp_updL (fun j => zl (f j)) k (zl v) = fun j => zl (va_up f k v j) := by
  funext j; unfold vp_updL va_up; by_cases h : j = k
  · rw [if_pos h, if_pos h]
  · rw [if_neg h, if_neg h]
def zand (x y : Int) : Int := (zi x &&& zi y).toInt
def zor (x y : Int) : Int := (zi x ||| zi y).toInt
def zxor (x y : Int) : Int := (zi x ^^^ zi y).toInt
def zshl (x y : Int) : Int := (zi x <<< (zi y &&& 31)).toInt
def zushr (x y : Int) : Int := ((zi x).toUInt32 >>> ((zi y).toUInt32 &&& Int32.toUInt32 31)).toInt32.toInt
def zlushr (x y : Int) : Int := ((zl x).toUInt64 >>> ((zi y).toInt64.toUInt64 &&& Int64.toUInt64 63)).toInt64.toInt
def zlshl (x y : Int) : Int := (zl x <<< ((zi y).toInt64 &&& 63)).toInt
def zlor (x y : Int) : Int := (zl x ||| zl y).toInt
def zland (x y : Int) : Int := (zl x &&& zl y).toInt
def zdiv (x y : Int) : Int := x.tdiv y
def zmod (x y : Int) : Int := x.tmod y
def zmin (x y : Int) : Int := if y < x then y else x
def zmax (x y : Int) : Int := if x < y then y else x
def zabs (x : Int) : Int := if 0 ≤ x then x else -x
theorem zi_div {x y : Int} (hx : -2147483648 ≤ x ∧ x ≤ 2147483647) (hy : -2147483648 ≤ y ∧ y ≤ 2147483647) : zi x / zi y = zi (zdiv x y) := by
  refine (Int32.ofInt_tdiv ?_ ?_ ?_ ?_).symm <;> first | exact hx.1 | exact hx.2 | exact hy.1 | exact hy.2
theorem zl_div {x y : Int} (hx : -9223372036854775808 ≤ x ∧ x ≤ 9223372036854775807) (hy : -9223372036854775808 ≤ y ∧ y ≤ 9223372036854775807) : zl x / zl y = zl (zdiv x y) := by
  refine (Int64.ofInt_tdiv ?_ ?_ ?_ ?_).symm <;> first | exact hx.1 | exact hx.2 | exact hy.1 | exact hy.2
theorem zmod_e (x y : Int) : x - zdiv x y * y = zmod x y := by unfold zdiv zmod; rw [Int.tmod_def, Int.mul_comm]
theorem zi_mod {x y : Int} (hx : -2147483648 ≤ x ∧ x ≤ 2147483647) (hy : -2147483648 ≤ y ∧ y ≤ 2147483647) : zi x - zi x / zi y * zi y = zi (zmod x y) := by
  rw [zi_div hx hy, ← zmod_e]; unfold zi; rw [Int32.ofInt_sub, Int32.ofInt_mul]
theorem zl_mod {x y : Int} (hx : -9223372036854775808 ≤ x ∧ x ≤ 9223372036854775807) (hy : -9223372036854775808 ≤ y ∧ y ≤ 9223372036854775807) : zl x - zl x / zl y * zl y = zl (zmod x y) := by
  rw [zl_div hx hy, ← zmod_e]; unfold zl; rw [Int64.ofInt_sub, Int64.ofInt_mul]
theorem zi_l {x : Int} (h : -2147483648 ≤ x ∧ x ≤ 2147483647) : (zi x).toInt64 = zl x := Int32.toInt64_ofInt h.1 h.2
theorem zl_i (x : Int) : (zl x).toInt32 = zi x := Int64.toInt32_ofInt
theorem z_fm {ws ws' : va_W} {is : List Nat} (hs : is.map (fun i => ws[i]?) = ws'.map some) : is.filterMap (fun i => ws[i]?) = ws' := by
  have h : is.filterMap (fun i => ws[i]?) = (is.map (fun i => ws[i]?)).filterMap id := by rw [List.filterMap_map]; rfl
  rw [h, hs, List.filterMap_map]
  simp
theorem zi_nI {x : Int} (h : 0 ≤ x) : zi x = nI x.toNat := by
  have : x = (x.toNat : Int) := by omega
  unfold zi nI; rw [← Int32.ofInt_eq_ofNat, ← this]
theorem zi_c {x : Int} (h : 0 ≤ x ∧ x < 65536) : ((zi x).toUInt32 % 65536).toInt32 = zi x := by
  rw [zi_nI h.1, pk_char, pk_tn (by omega), Nat.mod_eq_of_lt (by omega)]
theorem zn_c {x : Int} (h : 0 ≤ x ∧ x < 65536) : vp_nar .char (zi x) = zi x := by
  unfold vp_nar; rw [zi_nI h.1, (pk_charN (by omega)).1]
theorem zn_b {x : Int} (h : x = 0 ∨ x = 1) : vp_nar .boolean (zi x) = zi x := by rcases h with rfl | rfl <;> decide +kernel
theorem zcpy_i (f g : Nat → Int) (a b n : Nat) : va_cpy (fun j => zi (f j)) (fun j => zi (g j)) a b n = fun j => zi (va_cpy f g a b n j) := by
  funext j; unfold va_cpy; by_cases h : b ≤ j ∧ j < b + n
  · rw [if_pos h, if_pos h]
  · rw [if_neg h, if_neg h]
theorem zmin_e {x y : Int} (gx : -2147483648 ≤ x ∧ x ≤ 2147483647) (gy : -2147483648 ≤ y ∧ y ≤ 2147483647) : zi (zmin x y) = if zi y < zi x then zi y else zi x := by
  unfold zmin; by_cases h : y < x
  · rw [if_pos h, if_pos ((zi_lt gy gx).mpr h)]
  · rw [if_neg h, if_neg (fun q => h ((zi_lt gy gx).mp q))]
theorem zmax_e {x y : Int} (gx : -2147483648 ≤ x ∧ x ≤ 2147483647) (gy : -2147483648 ≤ y ∧ y ≤ 2147483647) : zi (zmax x y) = if zi x < zi y then zi y else zi x := by
  unfold zmax; by_cases h : x < y
  · rw [if_pos h, if_pos ((zi_lt gx gy).mpr h)]
  · rw [if_neg h, if_neg (fun q => h ((zi_lt gx gy).mp q))]
theorem zabs_e {x : Int} (gx : -2147483648 ≤ x ∧ x ≤ 2147483647) : zi (zabs x) = if 0 ≤ zi x then zi x else 0 - zi x := by
  have e0 : (0 : Int32) = zi 0 := rfl
  unfold zabs; rw [e0]; by_cases h : 0 ≤ x
  · rw [if_pos h, if_pos ((zi_le zr0 gx).mpr h)]
  · rw [if_neg h, if_neg (fun q => h ((zi_le zr0 gx).mp q)), ← Int32.ofInt_sub, Int.zero_sub]
def zcmp (x y : Int) : Int := if y < x then 1 else if x = y then 0 else -1
theorem zcmp_r (x y : Int) : -2147483648 ≤ zcmp x y ∧ zcmp x y ≤ 2147483647 := by unfold zcmp; split <;> (try split) <;> omega
theorem zcmp_s (x y : Int) : (y < x ∧ zcmp x y = 1) ∨ (x = y ∧ zcmp x y = 0) ∨ (x < y ∧ zcmp x y = -1) := by unfold zcmp; split <;> (try split) <;> omega
theorem zl_cmp {x y : Int} (gx : -9223372036854775808 ≤ x ∧ x ≤ 9223372036854775807) (gy : -9223372036854775808 ≤ y ∧ y ≤ 9223372036854775807) : lg_cmp (zl x) (zl y) = zi (zcmp x y) := by
  unfold lg_cmp zcmp; by_cases h : y < x
  · rw [if_pos h, if_pos ((zl_lt gy gx).mpr h)]; rfl
  · rw [if_neg h, if_neg (fun q => h ((zl_lt gy gx).mp q))]; by_cases h2 : x = y
    · rw [if_pos h2, if_pos ((zl_eq gx gy).mpr h2)]; rfl
    · rw [if_neg h2, if_neg (fun q => h2 ((zl_eq gx gy).mp q))]; rfl
theorem zr_l {x : Int} (h : -2147483648 ≤ x ∧ x ≤ 2147483647) : -9223372036854775808 ≤ x ∧ x ≤ 9223372036854775807 := by omega
theorem zn_z {x : Int} (h : x = 0 ∨ x = 1) : narrow .boolean (.int (zi x)) = .int (zi x) := by rcases h with rfl | rfl <;> decide +kernel
/-- worlds apart: the callee's cells wc and the rest wr, out of ws -/
def z_spl (ws wc wr : va_W) : Prop := ∃ g : Nat → Nat, (∀ (k : Nat) (q : Nat × va_E), (wc ++ wr)[k]? = some q → ws[g k]? = some q) ∧ ∀ i j : Nat, i < (wc ++ wr).length → j < (wc ++ wr).length → g i = g j → i = j
theorem z_spl_of {ws wc wr : va_W} (is : List Nat) (hn : va_nd is = true) (hs : is.map (fun i => ws[i]?) = (wc ++ wr).map some) : z_spl ws wc wr := by
  have hlen : is.length = (wc ++ wr).length := by have := congrArg List.length hs; simpa using this
  have at' : ∀ (k : Nat) (q : Nat × va_E), (wc ++ wr)[k]? = some q → ∃ i, is[k]? = some i ∧ ws[i]? = some q := by
    intro k q hq
    have h1 : (is.map (fun i => ws[i]?))[k]? = some (some q) := by rw [hs, List.getElem?_map, hq]; rfl
    rw [List.getElem?_map] at h1
    cases hi : is[k]? with
    | none => rw [hi] at h1; cases h1
    | some i => rw [hi] at h1; exact ⟨i, rfl, Option.some.inj h1⟩
  refine ⟨fun k => (is[k]?).getD 0, fun k q hq => ?_, fun i j hi hj he => ?_⟩
  · obtain ⟨i, h1, h2⟩ := at' k q hq
    show ws[(is[k]?).getD 0]? = some q
    rw [h1]; exact h2
  · have hi' : i < is.length := by omega
    have hj' : j < is.length := by omega
    have he : (is[i]?).getD 0 = (is[j]?).getD 0 := he
    rw [List.getElem?_eq_getElem hi', List.getElem?_eq_getElem hj'] at he
    have he : is[i] = is[j] := he
    exact va_nd_inj is hn i j is[i] (List.getElem?_eq_getElem hi') (by rw [List.getElem?_eq_getElem hj', he])
theorem z_spl.D {ws wc wr : va_W} {A : Nat → Prop} (h : z_spl ws wc wr) (hD : va_D A ws) : va_D A (wc ++ wr) := by
  obtain ⟨g, h1, h2⟩ := h
  exact hD.by g h1 h2
theorem z_spl.P {ws wc wr : va_W} {D : va_G} {cl : List vw_C} {H : Heap} (h : z_spl ws wc wr) (hP : va_P D cl ws H) : va_P D cl wc H ∧ va_P D cl wr H := by
  obtain ⟨g, h1, h2⟩ := h
  have hp := hP.by g h1
  exact ⟨fun k q hk => hp k q (by rw [List.getElem?_append_left (List.getElem?_eq_some_iff.mp hk).1]; exact hk), fun k q hk => hp (wc.length + k) q (by rw [List.getElem?_append_right (Nat.le_add_right _ _), Nat.add_sub_cancel_left]; exact hk)⟩
theorem z_D_app {A : Nat → Prop} {w1 w2 : va_W} (h : va_D A (w1 ++ w2)) : va_D A w1 ∧ va_D A w2 ∧ ∀ (i j : Nat) (p q : Nat × va_E), w1[i]? = some p → w2[j]? = some q → p.1 ≠ q.1 := by
  have l1 : ∀ (k : Nat) (q : Nat × va_E), w1[k]? = some q → k < w1.length ∧ (w1 ++ w2)[k]? = some q := fun k q hk => by
    have := (List.getElem?_eq_some_iff.mp hk).1
    exact ⟨this, by rw [List.getElem?_append_left this]; exact hk⟩
  have l2 : ∀ (k : Nat) (q : Nat × va_E), w2[k]? = some q → (w1 ++ w2)[w1.length + k]? = some q := fun k q hk => by
    rw [List.getElem?_append_right (Nat.le_add_right _ _), Nat.add_sub_cancel_left]; exact hk
  refine ⟨⟨fun i j p q hi hj he => h.1 i j p q (l1 i p hi).2 (l1 j q hj).2 he, fun k q hk => h.2 k q (l1 k q hk).2⟩, ⟨fun i j p q hi hj he => ?_, fun k q hk => h.2 _ q (l2 k q hk)⟩, fun i j p q hi hj he => ?_⟩
  · have := h.1 _ _ p q (l2 i p hi) (l2 j q hj) he; omega
  · have := h.1 _ _ p q (l1 i p hi).2 (l2 j q hj) he
    have := (l1 i p hi).1; omega
theorem z_join {A : Nat → Prop} {D : va_G} {cl : List vw_C} {ws wc wr w1 : va_W} {H H1 : Heap} (h : z_spl ws wc wr) (hP : va_P D cl ws H) (hD : va_D A ws) (hk : ∀ q : Nat, q < H.size → ¬ va_A wc H.size q → H1[q]? = H[q]?) (hF : ∀ q, va_A wc H.size q → A q) (hP1 : va_P D cl w1 H1) (hD1 : va_D (va_A wc H.size) w1) : va_P D cl (wr ++ w1) H1 ∧ va_D A (wr ++ w1) := by
  obtain ⟨-, hDr, hx⟩ := z_D_app (h.D hD)
  have hPr := (h.P hP).2
  have apart : ∀ (k : Nat) (q : Nat × va_E), wr[k]? = some q → q.1 < H.size ∧ ¬ va_A wc H.size q.1 := by
    intro k q hq
    have hl := (hPr k q hq).lt
    refine ⟨hl, fun hh => ?_⟩
    rcases hh with ⟨k2, e, hh⟩ | hh
    · exact hx k2 k _ q hh hq rfl
    · omega
  refine ⟨va_P.app (fun k q hq => ?_) hP1, va_D.app hDr (hD1.weaken (fun k q _ h => hF q.1 h)) (fun i j x y hx' hy' hxy => ?_)⟩
  · obtain ⟨g1, g2⟩ := apart k q hq
    exact (hPr k q hq).kept (hk q.1 g1 g2)
  · exact (apart i x hx').2 (by rw [hxy]; exact hD1.2 j y hy')
theorem z_free {A : Nat → Prop} {ws wc wr : va_W} {H0 H : Heap} {locs : List Loc} (h : z_spl ws wc wr) (hD : va_D A ws) (hS : va_S A H0 H locs) (hA : ∀ q, H0.size ≤ q → A q) : ∀ q, va_A wc H.size q → A q := by
  intro q hq
  rcases hq with ⟨k, e, hq⟩ | hq
  · exact (z_D_app (h.D hD)).1.2 k _ hq
  · exact hA q (Nat.le_trans hS.1 hq)
/-- what every method may take for granted: the tables' words of classes, arrays, texts, exceptions -/
def zStr : List (Nat × String) := [(82, "the text is full"), (97, "the text is not a complete cave text"), (143, "the drawpoint is not ready"), (156, "the drawpoint is hung"), (164, "the drawpoint is not hung"), (166, "the column has all its slices"), (174, "neighbours differ by more than the bound"), (182, "no state is remembered"), (227, "the grades are no number of m digits"), (234, "the script is no number of n commands"), (260, "the slot is empty"), (270, "there is no such drawpoint"), (273, "there is no such slot"), (275, "an argument is out of its range")]
def zEx : List String := ["java/lang/IndexOutOfBoundsException", "java/lang/IllegalArgumentException", "java/lang/IllegalStateException"]
def zE (x : Int) : String := if x = 1 then "java/lang/IndexOutOfBoundsException" else if x = 2 then "java/lang/IllegalArgumentException" else "java/lang/IllegalStateException"
def zDc : List MethodName := [Bundle.initS "java/lang/RuntimeException", Bundle.initS "java/lang/Exception", Bundle.initS Bundle.tN]
def zNg (cls : String) : List Cond := zDc.map (fun x => Cond.declares x) ++ [.castable cls cls]
def zNest : List (String × Nat × MethodName × String) := [("CaveDraw", 11, ⟨"CaveDraw$Grid", "<init>", "()V"⟩, "CaveDraw"), ("CaveDraw", 18, ⟨"CaveDraw$Cave", "<init>", "()V"⟩, "CaveDraw"), ("CaveDraw", 28, ⟨"CaveDraw$CaveText", "<init>", "()V"⟩, "CaveDraw"), ("CaveDraw$History", 17, ⟨"CaveDraw$Cave", "<init>", "()V"⟩, "CaveDraw"), ("CaveDraw$Slots", 21, ⟨"CaveDraw$Cave", "<init>", "()V"⟩, "CaveDraw"), ("CaveDraw", 49, ⟨"CaveDraw$SequenceSearch", "<init>", "()V"⟩, "CaveDraw"), ("CaveDraw", 56, ⟨"CaveDraw$Groups", "<init>", "()V"⟩, "CaveDraw")]
def zG (D : va_G) (J : Nat → ClassId) (U : State) : Prop := va_K D vwCl (zT J) U ∧ va_AO "CaveDraw$Cave" U ∧ (∀ q ∈ zStr, ∃ sa : Nat, vk_R RX8 q.1 q.2 sa U) ∧ (∀ E ∈ zEx, va_Nw (.castable E E) U) ∧ (∀ E ∈ zEx, ∀ E' ∈ zEx, E ≠ E' → va_Nc E E' U) ∧ (∀ x ∈ zDc, va_Nw (.declares x) U) ∧ (∀ q ∈ zNest, va_Nw (.methodLinkNest q.1 q.2.1 q.2.2.1 q.2.2.2) U) ∧ vk_R RL 184 "D;10x5" (J 8) U
theorem zG.warm {D : va_G} {J : Nat → ClassId} {s U : State} (hW : s.WarmedH U.vm) (h : zG D J s) : zG D J U :=
  ⟨va_K.moved hW.alike h.1, va_AO.moved hW.alike h.2.1, fun q hq => (h.2.2.1 q hq).imp fun _ z => z.warm hW, fun E hE => (h.2.2.2.1 E hE).warmC hW, fun E hE E' hE' hn => (h.2.2.2.2.1 E hE E' hE' hn).moved hW.alike, fun x hx => (h.2.2.2.2.2.1 x hx).warmD hW, fun q hq => (h.2.2.2.2.2.2.1 q hq).warmM hW, h.2.2.2.2.2.2.2.warm hW⟩
theorem zG.same {D : va_G} {J : Nat → ClassId} {s U : State} (hv : U.vm = s.vm) (h : zG D J s) : zG D J U :=
  ⟨va_K.moved (by rw [hv]; exact Vm.Alike.refl _) h.1, va_AO.moved (by rw [hv]; exact Vm.Alike.refl _) h.2.1, fun q hq => (h.2.2.1 q hq).imp fun _ z => z.same hv, fun E hE => (h.2.2.2.1 E hE).same rfl hv.symm, fun E hE E' hE' hn => (h.2.2.2.2.1 E hE E' hE' hn).moved (by rw [hv]; exact Vm.Alike.refl _), fun x hx => (h.2.2.2.2.2.1 x hx).same rfl hv.symm, fun q hq => (h.2.2.2.2.2.2.1 q hq).same rfl hv.symm, h.2.2.2.2.2.2.2.same hv⟩
/-- what lies outside an invocation's own cells: the text of the law's one string, the statics that its charAt reads, the script -/
def zHs (J : Nat → ClassId) (A : Nat → Prop) (U : State) (H : Heap) : Prop := vk_S 1 [6] [[68, 59, 49, 48, 120, 53]] (fun _ => J 8) (fun _ => J 9) A U H ∧ va_Z "java/lang/String" "COMPACT_STRINGS" "Z" (.int 1) A U H ∧ va_Zq "jdk/internal/util/Preconditions" "SIOOBE_FORMATTER" "Ljava/util/function/BiFunction;" A U H ∧ ∃ (L : Nat) (xs : Nat → Int), L ≤ 2147483647 ∧ (∀ j, -2147483648 ≤ xs j ∧ xs j ≤ 2147483647) ∧ va_X (J 7) L (fun j => zi (xs j)) U H ∧ J 7 < H.size ∧ ¬ A (J 7)
theorem zHs.moved {J : Nat → ClassId} {A : Nat → Prop} {u U : State} {H : Heap} (hvm : u.vm.Alike U.vm) (h : zHs J A u H) : zHs J A U H := by
  obtain ⟨h1, h2, h3, L, xs, h4, h0, h5, h6, h7⟩ := h
  exact ⟨h1.moved hvm, h2.moved hvm, h3.moved hvm, L, xs, h4, h0, h5.moved hvm, h6, h7⟩
theorem zHs.kept {J : Nat → ClassId} {A : Nat → Prop} {U : State} {H H1 : Heap} (h : zHs J A U H) (hz : H.size ≤ H1.size) (hq : ∀ a : Nat, a < H.size → ¬ A a → H1[a]? = H[a]?) : zHs J A U H1 := by
  obtain ⟨h1, h2, h3, L, xs, h4, h0, h5, h6, h7⟩ := h
  exact ⟨h1.kept hq, h2.kept hq, h3.kept hq, L, xs, h4, h0, h5.kept (hq _ h6 h7), Nat.lt_of_lt_of_le h6 hz, h7⟩
theorem zHs.narrow {J : Nat → ClassId} {A B : Nat → Prop} {U : State} {H : Heap} (h : zHs J A U H) (hAB : ∀ q, B q → A q) : zHs J B U H := by
  obtain ⟨h1, h2, h3, L, xs, h4, h0, h5, h6, h7⟩ := h
  exact ⟨h1.narrow hAB, h2.narrow hAB, h3.narrow hAB, L, xs, h4, h0, h5, h6, fun q => h7 (hAB _ q)⟩
/-- the two statics of Throwable that a throw reads, apart from the cells A; and what zHs says -/
def zH (J : Nat → ClassId) (A : Nat → Prop) (U : State) (H : Heap) : Prop := vx_Zq Bundle.tN "UNASSIGNED_STACK" Bundle.steD A U H ∧ vx_Zq Bundle.tN "SUPPRESSED_SENTINEL" Bundle.listD A U H ∧ zHs J A U H
theorem zH.step {J : Nat → ClassId} {A B : Nat → Prop} {s U : State} {H : Heap} {locs : List Loc} (h : zH J A s s.heap) (hS : va_S A s.heap H locs) (hAB : ∀ q, B q → A q) (hvm : s.vm.Alike U.vm) : zH J B U H :=
  ⟨((h.1.kept hS.2.1).narrow hAB).moved hvm, ((h.2.1.kept hS.2.1).narrow hAB).moved hvm, ((h.2.2.kept hS.1 hS.2.1).narrow hAB).moved hvm⟩
/-- a method's end: what it answers, and its cells -/
def zQ (D : va_G) (J : Nat → ClassId) (A : Nat → Prop) (Pr : Option Value → va_W → Prop) : Array Value → State → Outcome → State → Prop := fun _ st oc t => (∃ (rv : Option Value) (w' : va_W), oc = .returned rv ∧ Pr rv w' ∧ va_P D vwCl w' t.heap ∧ va_D A w') ∧ va_F A st t
def zPc (D : va_G) (J : Nat → ClassId) (sz : Nat) (av : List Value) (wc : va_W) : Array Value → State → Prop := va_Pc av (fun U => U.heap.size = sz ∧ va_P D vwCl wc U.heap ∧ zG D J U ∧ va_D (fun _ => True) wc ∧ zH J (va_A wc sz) U U.heap)
/-- a method's contract -/
def ZM (l : Launch) (D : va_G) (J : Nat → ClassId) (y : MethodName) (wsy : List Cond) (rm : Room) (mc ms : Nat) (av : List Value) (wc : va_W) (Pr : Option Value → va_W → Prop) : Prop :=
  l.stackTraces = false → ∀ sz : Nat, Met l y wsy rm (zPc D J sz av wc) (zQ D J (va_A wc sz) Pr) mc ms (va_A wc sz)
/-- where a method may throw -/
def zX (D : va_G) (A : Nat → Prop) (Px : String → va_W → Prop) : String → State → State → Prop := fun E st t => (∃ w' : va_W, Px E w' ∧ va_P D vwCl w' t.heap ∧ va_D A w') ∧ va_F A st t
def ZMx (l : Launch) (D : va_G) (J : Nat → ClassId) (y : MethodName) (wsy : List Cond) (rm : Room) (mc ms : Nat) (av : List Value) (wc : va_W) (Pr : Option Value → va_W → Prop) (Px : String → va_W → Prop) : Prop :=
  l.stackTraces = false → ∀ sz : Nat, vx_Met l y wsy rm (zPc D J sz av wc) (zQ D J (va_A wc sz) Pr) (zX D (va_A wc sz) Px) mc ms (va_A wc sz)
theorem z_blind {D : va_G} {J : Nat → ClassId} {sz : Nat} {av : List Value} {wc : va_W} : FrameBlind (zPc D J sz av wc) := fun a U g mk q => by obtain ⟨q0, q1, qP, qK, qD, qH⟩ := q; exact ⟨q0, q1, qP, qK.same rfl, qD, qH.1.moved (u := U) (U := U.calling g mk a) (Vm.Alike.refl U.vm), qH.2.1.moved (u := U) (U := U.calling g mk a) (Vm.Alike.refl U.vm), qH.2.2.moved (u := U) (U := U.calling g mk a) (Vm.Alike.refl U.vm)⟩
theorem z_call0 {p : Program} {l : Launch} {e : Env} {R : Room} {s : State} {m : MethodId} {args : Array Value} {below : List Frame} {meth : Method} {c : Code} {H : Heap} {locs : List Loc} {cells slots mc ms pc : Nat} {Q : State → Prop} {ls : Array Slot} {rest st0 : List Value} {a : Array Value} {A0 A1 : Nat → Prop} {H0 : Heap} {free : Addr → Prop} {D : va_G} {J : Nat → ClassId} {Pr : Option Value → va_W → Prop}
    (hr : va_Run p l e R s m args below meth c H locs cells slots mc ms (F0 m pc ls st0) rest (zQ D J A1 Pr a) free) (hS : va_S A0 H0 H locs) (hA : ∀ q, q < H.size → A1 q → A0 q) (hf : ∀ q, free q → A0 q)
    (kk : ∀ (rv : Option Value) (w' : va_W) (t : State) (H1 : Heap) (locs1 : List Loc), t.heap = H1 → s.vm.Alike t.vm → Pr rv w' → va_P D vwCl w' H1 → va_D A1 w' → H.size ≤ H1.size → (∀ q : Nat, q < H.size → ¬ A1 q → H1[q]? = H[q]?) → va_S A0 H0 H1 locs1 → W p l e R s m args below meth c H1 locs1 (cells + mc) (slots + ms) Q (F0 m (pc + 3) ls (rv.toList ++ rest))) : W p l e R s m args below meth c H locs cells slots Q (F0 m pc ls st0) := by
  intro T hT X
  obtain ⟨v, st₀, t, T', L, h0, X', hL, e1, e2, ⟨⟨rv, w', hv, hp, hP, hD⟩, hz, hk⟩, st⟩ := hr T hT X
  cases hv
  rw [h0] at hz hk
  obtain ⟨t2, a1, b1⟩ := kk _ w' t T'.heap (locs ++ L) e1.symm (by rw [← e2]; exact X'.warmed.alike) hp (by rw [e1]; exact hP) hD (by rw [e1]; exact hz) (fun q h1 h2 => by rw [e1]; exact hk q h1 h2)
    ⟨Nat.le_trans hS.1 (by rw [e1]; exact hz), fun q h1 h2 => by rw [e1, hk q (Nat.lt_of_lt_of_le h1 hS.1) (fun z => h2 (hA q (Nat.lt_of_lt_of_le h1 hS.1) z))]; exact hS.2.1 q h1 h2, fun q hq => by
      rcases List.mem_append.mp hq with h | h
      · exact hS.2.2 q h
      · exact hf _ (hL q h)⟩ T' rfl X'
  exact ⟨t2, st t2 a1, b1⟩
theorem z_callx0 {p : Program} {l : Launch} {e : Env} {R : Room} {s : State} {m : MethodId} {args : Array Value} {below : List Frame} {meth : Method} {c : Code} {H : Heap} {locs : List Loc} {cells slots mc ms pc : Nat} {Q : State → Prop} {ls : Array Slot} {rest st0 : List Value} {a : Array Value} {A0 A1 : Nat → Prop} {H0 : Heap} {free : Addr → Prop} {D : va_G} {J : Nat → ClassId} {Pr : Option Value → va_W → Prop} {Px : String → va_W → Prop}
    (hr : vx_Run p l e R s m args below meth c H locs cells slots mc ms (F0 m pc ls st0) rest (zQ D J A1 Pr a) (zX D A1 Px) free) (hS : va_S A0 H0 H locs) (hA : ∀ q, q < H.size → A1 q → A0 q) (hf : ∀ q, free q → A0 q)
    (kx : ∀ (E : String) (ce : Cell) (q9 : Addr) (w' : va_W) (t : State) (H1 : Heap) (locs1 : List Loc), t.heap = H1 → s.vm.Alike t.vm → Px E w' → va_P D vwCl w' H1 → va_D A1 w' → H.size ≤ H1.size → (∀ q : Nat, q < H.size → ¬ A1 q → H1[q]? = H[q]?) → va_S A0 H0 H1 locs1 → H1[q9]? = some ce → ce.vm = .none → s.vm.findClass E = some ce.cls → vx_W p l e R s m args below meth c H1 locs1 (cells + mc) (slots + ms) Q (F0 m pc ls rest) q9)
    (kk : ∀ (rv : Option Value) (w' : va_W) (t : State) (H1 : Heap) (locs1 : List Loc), t.heap = H1 → s.vm.Alike t.vm → Pr rv w' → va_P D vwCl w' H1 → va_D A1 w' → H.size ≤ H1.size → (∀ q : Nat, q < H.size → ¬ A1 q → H1[q]? = H[q]?) → va_S A0 H0 H1 locs1 → W p l e R s m args below meth c H1 locs1 (cells + mc) (slots + ms) Q (F0 m (pc + 3) ls (rv.toList ++ rest))) : W p l e R s m args below meth c H locs cells slots Q (F0 m pc ls st0) := by
  intro T hT X
  rcases hr T hT X with ⟨v, st₀, t, T', L, h0, X', hL, e1, e2, ⟨⟨rv, w', hv, hp, hP, hD⟩, hF⟩, st⟩ | ⟨q, st₀, t, T', L, E, ce, h0, X', hL, e1, e2, ⟨⟨w', hp, hP, hD⟩, hF⟩, hce, hcv, hcl, st⟩
  · cases hv
    obtain ⟨k1, k2, k3⟩ := vx_keep h0 e1 hS hA hf hL hF
    obtain ⟨t2, a1, b1⟩ := kk _ w' t T'.heap (locs ++ L) e1.symm (by rw [← e2]; exact X'.warmed.alike) hp (by rw [e1]; exact hP) hD k1 k2 k3 T' rfl X'
    exact ⟨t2, st t2 a1, b1⟩
  · obtain ⟨k1, k2, k3⟩ := vx_keep h0 e1 hS hA hf hL hF
    obtain ⟨t2, a1, b1⟩ := kx E ce q w' t T'.heap (locs ++ L) e1.symm (by rw [← e2]; exact X'.warmed.alike) hp (by rw [e1]; exact hP) hD k1 k2 k3 (by rw [e1]; exact hce) hcv hcl T' rfl X'
    exact ⟨t2, st.trans a1, b1⟩
section ZZ
variable {p : Program} {l : Launch} {e : Env} {R : Room} {s : State} {m : MethodId} {args : Array Value} {below : List Frame} {meth : Method} {c : Code} {Q : State → Prop} {cc : ByteArray} {nL : Nat} {Ts : List Cond} {own : String} {D : va_G} {J : Nat → ClassId} {A : Nat → Prop} {ret : Option FieldType} {nm : String × List ExceptionTableEntry}
def Zx (p : Program) (l : Launch) (s : State) (m : MethodId) (args : Array Value) (meth : Method) (c : Code) (cc : ByteArray) (nL : Nat) (Ts : List Cond) (own : String) (D : va_G) (J : Nat → ClassId) (A : Nat → Prop) (ret : Option FieldType) (nm : String × List ExceptionTableEntry) : Prop :=
  CallFix p m c cc nL s args Ts own ∧ zG D J s ∧ (∀ q : Nat, s.heap.size ≤ q → A q) ∧ meth.sig.returnType = ret ∧ meth.locks = false ∧ meth.name = nm.1 ∧ c.exceptionTable.toList = nm.2 ∧ zH J A s s.heap ∧ l.stackTraces = false
def Z (p : Program) (l : Launch) (e : Env) (R : Room) (s : State) (m : MethodId) (args : Array Value) (below : List Frame) (meth : Method) (c : Code) (Q : State → Prop) (cc : ByteArray) (nL : Nat) (Ts : List Cond) (own : String) (D : va_G) (J : Nat → ClassId) (A : Nat → Prop) (ret : Option FieldType) (nm : String × List ExceptionTableEntry) (cells slots : Nat) (ws : va_W) (lv : List (Nat × Value)) (pc : Nat) (st : List Value) : Prop :=
  ∀ (H : Heap) (locs : List Loc) (ls : Array Slot), Zx p l s m args meth c cc nL Ts own D J A ret nm → va_P D vwCl ws H → va_D A ws → va_S A s.heap H locs → lv_has ls nL lv → W p l e R s m args below meth c H locs cells slots Q (F0 m pc ls st)
variable {cells slots : Nat} {ws : va_W} {lv : List (Nat × Value)} {pc pc' : Nat} {st rest : List Value}
theorem z_iconst {n : Int} (d : decode cc pc = .ok (.iconst n, 1)) (hpc : pc + 1 = pc') (kk : Z p l e R s m args below meth c Q cc nL Ts own D J A ret nm cells slots ws lv pc' (.int (zi n) :: rest)) : Z p l e R s m args below meth c Q cc nL Ts own D J A ret nm cells slots ws lv pc (rest) := by
  intro H locs ls X hP hD hS hl
  obtain ⟨⟨hx, hb, hml, hown, hts⟩, ⟨hK, hG⟩, hA, hr, hlk, hnm, het, hHH, hst0⟩ := id X
  subst hpc
  exact lv_iconst hx hb d rfl (kk H locs ls X hP hD hS hl)
theorem z_bipush {n : Int} (d : decode cc pc = .ok (.bipush n, 2)) (hv : (Int8.ofInt n).toInt32 = zi n) (hpc : pc + 2 = pc') (kk : Z p l e R s m args below meth c Q cc nL Ts own D J A ret nm cells slots ws lv pc' (.int (zi n) :: rest)) : Z p l e R s m args below meth c Q cc nL Ts own D J A ret nm cells slots ws lv pc (rest) := by
  intro H locs ls X hP hD hS hl
  obtain ⟨⟨hx, hb, hml, hown, hts⟩, ⟨hK, hG⟩, hA, hr, hlk, hnm, het, hHH, hst0⟩ := id X
  subst hpc
  exact lv_bipush hx hb d hv (kk H locs ls X hP hD hS hl)
theorem z_sipush {n : Int} (d : decode cc pc = .ok (.sipush n, 3)) (hv : (Int16.ofInt n).toInt32 = zi n) (hpc : pc + 3 = pc') (kk : Z p l e R s m args below meth c Q cc nL Ts own D J A ret nm cells slots ws lv pc' (.int (zi n) :: rest)) : Z p l e R s m args below meth c Q cc nL Ts own D J A ret nm cells slots ws lv pc (rest) := by
  intro H locs ls X hP hD hS hl
  obtain ⟨⟨hx, hb, hml, hown, hts⟩, ⟨hK, hG⟩, hA, hr, hlk, hnm, het, hHH, hst0⟩ := id X
  subst hpc
  exact lv_sipush hx hb d hv (kk H locs ls X hP hD hS hl)
theorem z_lconst {n : Fin 2} (v : Int) (d : decode cc pc = .ok (.lconst n, 1)) (hv : Int64.ofNat (n : Nat) = zl v) (hpc : pc + 1 = pc') (kk : Z p l e R s m args below meth c Q cc nL Ts own D J A ret nm cells slots ws lv pc' (.long (zl v) :: rest)) : Z p l e R s m args below meth c Q cc nL Ts own D J A ret nm cells slots ws lv pc (rest) := by
  intro H locs ls X hP hD hS hl
  obtain ⟨⟨hx, hb, hml, hown, hts⟩, ⟨hK, hG⟩, hA, hr, hlk, hnm, het, hHH, hst0⟩ := id X
  subst hpc
  exact lv_lconst hx hb d hv (kk H locs ls X hP hD hS hl)
theorem z_ldc {i : Nat} {v : Int32} (n : Int) (d : decode cc pc = .ok (.ldc i, 2)) (hc : Cond.constant own i v ∈ Ts) (hv : v = zi n) (hpc : pc + 2 = pc') (kk : Z p l e R s m args below meth c Q cc nL Ts own D J A ret nm cells slots ws lv pc' (.int (zi n) :: rest)) : Z p l e R s m args below meth c Q cc nL Ts own D J A ret nm cells slots ws lv pc (rest) := by
  intro H locs ls X hP hD hS hl
  obtain ⟨⟨hx, hb, hml, hown, hts⟩, ⟨hK, hG⟩, hA, hr, hlk, hnm, het, hHH, hst0⟩ := id X
  subst hpc
  subst hv
  exact lv_ldc hx hb hown (hts _ hc) d (kk H locs ls X hP hD hS hl)
theorem z_ldcw {i : Nat} {v : Int32} (n : Int) (d : decode cc pc = .ok (.ldc_w i, 3)) (hc : Cond.constant own i v ∈ Ts) (hv : v = zi n) (hpc : pc + 3 = pc') (kk : Z p l e R s m args below meth c Q cc nL Ts own D J A ret nm cells slots ws lv pc' (.int (zi n) :: rest)) : Z p l e R s m args below meth c Q cc nL Ts own D J A ret nm cells slots ws lv pc (rest) := by
  intro H locs ls X hP hD hS hl
  obtain ⟨⟨hx, hb, hml, hown, hts⟩, ⟨hK, hG⟩, hA, hr, hlk, hnm, het, hHH, hst0⟩ := id X
  subst hpc
  subst hv
  exact lv_ldcw hx hb hown (hts _ hc) d (kk H locs ls X hP hD hS hl)
theorem z_ldc2 {i : Nat} {v : Int64} (n : Int) (d : decode cc pc = .ok (.ldc2_w i, 3)) (hc : Cond.constantLong own i v ∈ Ts) (hv : v = zl n) (hpc : pc + 3 = pc') (kk : Z p l e R s m args below meth c Q cc nL Ts own D J A ret nm cells slots ws lv pc' (.long (zl n) :: rest)) : Z p l e R s m args below meth c Q cc nL Ts own D J A ret nm cells slots ws lv pc (rest) := by
  intro H locs ls X hP hD hS hl
  obtain ⟨⟨hx, hb, hml, hown, hts⟩, ⟨hK, hG⟩, hA, hr, hlk, hnm, het, hHH, hst0⟩ := id X
  subst hpc
  subst hv
  exact lv_ldc2 hx hb hown (hts _ hc) d (kk H locs ls X hP hD hS hl)
theorem z_iload_n {k : Fin 4} {i : Nat} {x : Int32} (q : Nat) (d : decode cc pc = .ok (.iload_n k, 1)) (hi : (k : Nat) = i) (hq : lv[q]? = some (i, .int x)) (hpc : pc + 1 = pc') (kk : Z p l e R s m args below meth c Q cc nL Ts own D J A ret nm cells slots ws lv pc' (.int x :: rest)) : Z p l e R s m args below meth c Q cc nL Ts own D J A ret nm cells slots ws lv pc (rest) := by
  intro H locs ls X hP hD hS hl
  obtain ⟨⟨hx, hb, hml, hown, hts⟩, ⟨hK, hG⟩, hA, hr, hlk, hnm, het, hHH, hst0⟩ := id X
  subst hpc
  exact lv_iload_n hx hb d hi (lv_at hl q hq) (kk H locs ls X hP hD hS hl)
theorem z_iload {i : Nat} {x : Int32} (q : Nat) (d : decode cc pc = .ok (.iload i, 2)) (hq : lv[q]? = some (i, .int x)) (hpc : pc + 2 = pc') (kk : Z p l e R s m args below meth c Q cc nL Ts own D J A ret nm cells slots ws lv pc' (.int x :: rest)) : Z p l e R s m args below meth c Q cc nL Ts own D J A ret nm cells slots ws lv pc (rest) := by
  intro H locs ls X hP hD hS hl
  obtain ⟨⟨hx, hb, hml, hown, hts⟩, ⟨hK, hG⟩, hA, hr, hlk, hnm, het, hHH, hst0⟩ := id X
  subst hpc
  exact lv_iload hx hb d (lv_at hl q hq) (kk H locs ls X hP hD hS hl)
theorem z_lload_n {k : Fin 4} {i : Nat} {x : Int64} (q : Nat) (d : decode cc pc = .ok (.lload_n k, 1)) (hi : (k : Nat) = i) (hq : lv[q]? = some (i, .long x)) (hpc : pc + 1 = pc') (kk : Z p l e R s m args below meth c Q cc nL Ts own D J A ret nm cells slots ws lv pc' (.long x :: rest)) : Z p l e R s m args below meth c Q cc nL Ts own D J A ret nm cells slots ws lv pc (rest) := by
  intro H locs ls X hP hD hS hl
  obtain ⟨⟨hx, hb, hml, hown, hts⟩, ⟨hK, hG⟩, hA, hr, hlk, hnm, het, hHH, hst0⟩ := id X
  subst hpc
  exact lv_lload_n hx hb d hi (lv_at hl q hq) (kk H locs ls X hP hD hS hl)
theorem z_lload {i : Nat} {x : Int64} (q : Nat) (d : decode cc pc = .ok (.lload i, 2)) (hq : lv[q]? = some (i, .long x)) (hpc : pc + 2 = pc') (kk : Z p l e R s m args below meth c Q cc nL Ts own D J A ret nm cells slots ws lv pc' (.long x :: rest)) : Z p l e R s m args below meth c Q cc nL Ts own D J A ret nm cells slots ws lv pc (rest) := by
  intro H locs ls X hP hD hS hl
  obtain ⟨⟨hx, hb, hml, hown, hts⟩, ⟨hK, hG⟩, hA, hr, hlk, hnm, het, hHH, hst0⟩ := id X
  subst hpc
  exact lv_lload hx hb d (lv_at hl q hq) (kk H locs ls X hP hD hS hl)
theorem z_aload_n {k : Fin 4} {i x : Nat} (q : Nat) (d : decode cc pc = .ok (.aload_n k, 1)) (hi : (k : Nat) = i) (hq : lv[q]? = some (i, .ref x)) (hpc : pc + 1 = pc') (kk : Z p l e R s m args below meth c Q cc nL Ts own D J A ret nm cells slots ws lv pc' (.ref x :: rest)) : Z p l e R s m args below meth c Q cc nL Ts own D J A ret nm cells slots ws lv pc (rest) := by
  intro H locs ls X hP hD hS hl
  obtain ⟨⟨hx, hb, hml, hown, hts⟩, ⟨hK, hG⟩, hA, hr, hlk, hnm, het, hHH, hst0⟩ := id X
  subst hpc
  exact lv_aload_n hx hb d hi (lv_at hl q hq) (kk H locs ls X hP hD hS hl)
theorem z_aload {i x : Nat} (q : Nat) (d : decode cc pc = .ok (.aload i, 2)) (hq : lv[q]? = some (i, .ref x)) (hpc : pc + 2 = pc') (kk : Z p l e R s m args below meth c Q cc nL Ts own D J A ret nm cells slots ws lv pc' (.ref x :: rest)) : Z p l e R s m args below meth c Q cc nL Ts own D J A ret nm cells slots ws lv pc (rest) := by
  intro H locs ls X hP hD hS hl
  obtain ⟨⟨hx, hb, hml, hown, hts⟩, ⟨hK, hG⟩, hA, hr, hlk, hnm, het, hHH, hst0⟩ := id X
  subst hpc
  exact lv_aload hx hb d (lv_at hl q hq) (kk H locs ls X hP hD hS hl)
theorem z_istore_n {k : Fin 4} {i : Nat} {x : Int32} (lv' : List (Nat × Value)) (d : decode cc pc = .ok (.istore_n k, 1)) (hi : (k : Nat) = i) (hn : i < nL) (hv : (i, Value.int x) :: lv.filter (fun q => !(q.1 == i) && !(q.1 + 1 == i && q.2.category == 2)) = lv') (hpc : pc + 1 = pc') (kk : Z p l e R s m args below meth c Q cc nL Ts own D J A ret nm cells slots ws lv' pc' rest) : Z p l e R s m args below meth c Q cc nL Ts own D J A ret nm cells slots ws lv pc (.int x :: rest) := by
  intro H locs ls X hP hD hS hl
  obtain ⟨⟨hx, hb, hml, hown, hts⟩, ⟨hK, hG⟩, hA, hr, hlk, hnm, het, hHH, hst0⟩ := id X
  subst hpc
  exact lv_istore_n hx hb d hi hl hn hv (fun ls' hl' => kk H locs ls' X hP hD hS hl')
theorem z_istore {i : Nat} {x : Int32} (lv' : List (Nat × Value)) (d : decode cc pc = .ok (.istore i, 2)) (hn : i < nL) (hv : (i, Value.int x) :: lv.filter (fun q => !(q.1 == i) && !(q.1 + 1 == i && q.2.category == 2)) = lv') (hpc : pc + 2 = pc') (kk : Z p l e R s m args below meth c Q cc nL Ts own D J A ret nm cells slots ws lv' pc' rest) : Z p l e R s m args below meth c Q cc nL Ts own D J A ret nm cells slots ws lv pc (.int x :: rest) := by
  intro H locs ls X hP hD hS hl
  obtain ⟨⟨hx, hb, hml, hown, hts⟩, ⟨hK, hG⟩, hA, hr, hlk, hnm, het, hHH, hst0⟩ := id X
  subst hpc
  exact lv_istore hx hb d hl hn hv (fun ls' hl' => kk H locs ls' X hP hD hS hl')
theorem z_lstore_n {k : Fin 4} {i : Nat} {x : Int64} (lv' : List (Nat × Value)) (d : decode cc pc = .ok (.lstore_n k, 1)) (hi : (k : Nat) = i) (hn : i + 1 < nL) (hv : (i, Value.long x) :: lv.filter (fun q => !(q.1 == i) && (!(q.1 == i + 1) && !(q.1 + 1 == i && q.2.category == 2))) = lv') (hpc : pc + 1 = pc') (kk : Z p l e R s m args below meth c Q cc nL Ts own D J A ret nm cells slots ws lv' pc' rest) : Z p l e R s m args below meth c Q cc nL Ts own D J A ret nm cells slots ws lv pc (.long x :: rest) := by
  intro H locs ls X hP hD hS hl
  obtain ⟨⟨hx, hb, hml, hown, hts⟩, ⟨hK, hG⟩, hA, hr, hlk, hnm, het, hHH, hst0⟩ := id X
  subst hpc
  exact lv_lstore_n hx hb d hi hl hn hv (fun ls' hl' => kk H locs ls' X hP hD hS hl')
theorem z_lstore {i : Nat} {x : Int64} (lv' : List (Nat × Value)) (d : decode cc pc = .ok (.lstore i, 2)) (hn : i + 1 < nL) (hv : (i, Value.long x) :: lv.filter (fun q => !(q.1 == i) && (!(q.1 == i + 1) && !(q.1 + 1 == i && q.2.category == 2))) = lv') (hpc : pc + 2 = pc') (kk : Z p l e R s m args below meth c Q cc nL Ts own D J A ret nm cells slots ws lv' pc' rest) : Z p l e R s m args below meth c Q cc nL Ts own D J A ret nm cells slots ws lv pc (.long x :: rest) := by
  intro H locs ls X hP hD hS hl
  obtain ⟨⟨hx, hb, hml, hown, hts⟩, ⟨hK, hG⟩, hA, hr, hlk, hnm, het, hHH, hst0⟩ := id X
  subst hpc
  exact lv_lstore hx hb d hl hn hv (fun ls' hl' => kk H locs ls' X hP hD hS hl')
theorem z_astore_n {k : Fin 4} {i : Nat} {x : Nat} (lv' : List (Nat × Value)) (d : decode cc pc = .ok (.astore_n k, 1)) (hi : (k : Nat) = i) (hn : i < nL) (hv : (i, Value.ref x) :: lv.filter (fun q => !(q.1 == i) && !(q.1 + 1 == i && q.2.category == 2)) = lv') (hpc : pc + 1 = pc') (kk : Z p l e R s m args below meth c Q cc nL Ts own D J A ret nm cells slots ws lv' pc' rest) : Z p l e R s m args below meth c Q cc nL Ts own D J A ret nm cells slots ws lv pc (.ref x :: rest) := by
  intro H locs ls X hP hD hS hl
  obtain ⟨⟨hx, hb, hml, hown, hts⟩, ⟨hK, hG⟩, hA, hr, hlk, hnm, het, hHH, hst0⟩ := id X
  subst hpc
  exact lv_astore_n hx hb d hi hl hn hv (fun ls' hl' => kk H locs ls' X hP hD hS hl')
theorem z_astore {i : Nat} {x : Nat} (lv' : List (Nat × Value)) (d : decode cc pc = .ok (.astore i, 2)) (hn : i < nL) (hv : (i, Value.ref x) :: lv.filter (fun q => !(q.1 == i) && !(q.1 + 1 == i && q.2.category == 2)) = lv') (hpc : pc + 2 = pc') (kk : Z p l e R s m args below meth c Q cc nL Ts own D J A ret nm cells slots ws lv' pc' rest) : Z p l e R s m args below meth c Q cc nL Ts own D J A ret nm cells slots ws lv pc (.ref x :: rest) := by
  intro H locs ls X hP hD hS hl
  obtain ⟨⟨hx, hb, hml, hown, hts⟩, ⟨hK, hG⟩, hA, hr, hlk, hnm, het, hHH, hst0⟩ := id X
  subst hpc
  exact lv_astore hx hb d hl hn hv (fun ls' hl' => kk H locs ls' X hP hD hS hl')
theorem z_iinc {i : Nat} {n x : Int} (lv' : List (Nat × Value)) (q : Nat) (d : decode cc pc = .ok (.iinc i n, 3)) (hq : lv[q]? = some (i, .int (zi x))) (hn : i < nL) (hv : (i, Value.int (zi (x + n))) :: lv.filter (fun q => !(q.1 == i) && !(q.1 + 1 == i && q.2.category == 2)) = lv') (hpc : pc + 3 = pc') (kk : Z p l e R s m args below meth c Q cc nL Ts own D J A ret nm cells slots ws lv' pc' rest) : Z p l e R s m args below meth c Q cc nL Ts own D J A ret nm cells slots ws lv pc rest := by
  intro H locs ls X hP hD hS hl
  obtain ⟨⟨hx, hb, hml, hown, hts⟩, ⟨hK, hG⟩, hA, hr, hlk, hnm, het, hHH, hst0⟩ := id X
  subst hpc
  exact lv_iinc hx hb d hl hq (Int32.ofInt_add x n).symm hn hv (fun ls' hl' => kk H locs ls' X hP hD hS hl')
theorem z_iadd {x y : Int} (d : decode cc pc = .ok (.iadd, 1)) (hpc : pc + 1 = pc') (kk : Z p l e R s m args below meth c Q cc nL Ts own D J A ret nm cells slots ws lv pc' (.int (zi (x + y)) :: rest)) : Z p l e R s m args below meth c Q cc nL Ts own D J A ret nm cells slots ws lv pc (.int (zi y) :: .int (zi x) :: rest) := by
  intro H locs ls X hP hD hS hl
  obtain ⟨⟨hx, hb, hml, hown, hts⟩, ⟨hK, hG⟩, hA, hr, hlk, hnm, het, hHH, hst0⟩ := id X
  subst hpc
  have kk := kk H locs ls X hP hD hS hl
  rw [show zi (x + y) = _ from Int32.ofInt_add x y] at kk
  exact lv_iadd hx hb d kk
theorem z_isub {x y : Int} (d : decode cc pc = .ok (.isub, 1)) (hpc : pc + 1 = pc') (kk : Z p l e R s m args below meth c Q cc nL Ts own D J A ret nm cells slots ws lv pc' (.int (zi (x - y)) :: rest)) : Z p l e R s m args below meth c Q cc nL Ts own D J A ret nm cells slots ws lv pc (.int (zi y) :: .int (zi x) :: rest) := by
  intro H locs ls X hP hD hS hl
  obtain ⟨⟨hx, hb, hml, hown, hts⟩, ⟨hK, hG⟩, hA, hr, hlk, hnm, het, hHH, hst0⟩ := id X
  subst hpc
  have kk := kk H locs ls X hP hD hS hl
  rw [show zi (x - y) = _ from Int32.ofInt_sub x y] at kk
  exact lv_isub hx hb d kk
theorem z_imul {x y : Int} (d : decode cc pc = .ok (.imul, 1)) (hpc : pc + 1 = pc') (kk : Z p l e R s m args below meth c Q cc nL Ts own D J A ret nm cells slots ws lv pc' (.int (zi (x * y)) :: rest)) : Z p l e R s m args below meth c Q cc nL Ts own D J A ret nm cells slots ws lv pc (.int (zi y) :: .int (zi x) :: rest) := by
  intro H locs ls X hP hD hS hl
  obtain ⟨⟨hx, hb, hml, hown, hts⟩, ⟨hK, hG⟩, hA, hr, hlk, hnm, het, hHH, hst0⟩ := id X
  subst hpc
  have kk := kk H locs ls X hP hD hS hl
  rw [show zi (x * y) = _ from Int32.ofInt_mul x y] at kk
  exact lv_imul hx hb d kk
theorem z_iand {x y : Int} (d : decode cc pc = .ok (.iand, 1)) (hpc : pc + 1 = pc') (kk : Z p l e R s m args below meth c Q cc nL Ts own D J A ret nm cells slots ws lv pc' (.int (zi (zand x y)) :: rest)) : Z p l e R s m args below meth c Q cc nL Ts own D J A ret nm cells slots ws lv pc (.int (zi y) :: .int (zi x) :: rest) := by
  intro H locs ls X hP hD hS hl
  obtain ⟨⟨hx, hb, hml, hown, hts⟩, ⟨hK, hG⟩, hA, hr, hlk, hnm, het, hHH, hst0⟩ := id X
  subst hpc
  have kk := kk H locs ls X hP hD hS hl
  rw [show zi (zand x y) = _ from Int32.ofInt_toInt _] at kk
  exact lv_iand hx hb d kk
theorem z_ior {x y : Int} (d : decode cc pc = .ok (.ior, 1)) (hpc : pc + 1 = pc') (kk : Z p l e R s m args below meth c Q cc nL Ts own D J A ret nm cells slots ws lv pc' (.int (zi (zor x y)) :: rest)) : Z p l e R s m args below meth c Q cc nL Ts own D J A ret nm cells slots ws lv pc (.int (zi y) :: .int (zi x) :: rest) := by
  intro H locs ls X hP hD hS hl
  obtain ⟨⟨hx, hb, hml, hown, hts⟩, ⟨hK, hG⟩, hA, hr, hlk, hnm, het, hHH, hst0⟩ := id X
  subst hpc
  have kk := kk H locs ls X hP hD hS hl
  rw [show zi (zor x y) = _ from Int32.ofInt_toInt _] at kk
  exact lv_ior hx hb d kk
theorem z_ixor {x y : Int} (d : decode cc pc = .ok (.ixor, 1)) (hpc : pc + 1 = pc') (kk : Z p l e R s m args below meth c Q cc nL Ts own D J A ret nm cells slots ws lv pc' (.int (zi (zxor x y)) :: rest)) : Z p l e R s m args below meth c Q cc nL Ts own D J A ret nm cells slots ws lv pc (.int (zi y) :: .int (zi x) :: rest) := by
  intro H locs ls X hP hD hS hl
  obtain ⟨⟨hx, hb, hml, hown, hts⟩, ⟨hK, hG⟩, hA, hr, hlk, hnm, het, hHH, hst0⟩ := id X
  subst hpc
  have kk := kk H locs ls X hP hD hS hl
  rw [show zi (zxor x y) = _ from Int32.ofInt_toInt _] at kk
  exact lv_ixor hx hb d kk
theorem z_ishl {x y : Int} (d : decode cc pc = .ok (.ishl, 1)) (hpc : pc + 1 = pc') (kk : Z p l e R s m args below meth c Q cc nL Ts own D J A ret nm cells slots ws lv pc' (.int (zi (zshl x y)) :: rest)) : Z p l e R s m args below meth c Q cc nL Ts own D J A ret nm cells slots ws lv pc (.int (zi y) :: .int (zi x) :: rest) := by
  intro H locs ls X hP hD hS hl
  obtain ⟨⟨hx, hb, hml, hown, hts⟩, ⟨hK, hG⟩, hA, hr, hlk, hnm, het, hHH, hst0⟩ := id X
  subst hpc
  have kk := kk H locs ls X hP hD hS hl
  rw [show zi (zshl x y) = _ from Int32.ofInt_toInt _] at kk
  exact lv_ishl hx hb d kk
theorem z_iushr {x y : Int} (d : decode cc pc = .ok (.iushr, 1)) (hpc : pc + 1 = pc') (kk : Z p l e R s m args below meth c Q cc nL Ts own D J A ret nm cells slots ws lv pc' (.int (zi (zushr x y)) :: rest)) : Z p l e R s m args below meth c Q cc nL Ts own D J A ret nm cells slots ws lv pc (.int (zi y) :: .int (zi x) :: rest) := by
  intro H locs ls X hP hD hS hl
  obtain ⟨⟨hx, hb, hml, hown, hts⟩, ⟨hK, hG⟩, hA, hr, hlk, hnm, het, hHH, hst0⟩ := id X
  subst hpc
  exact lv_iushr hx hb d (Int32.ofInt_toInt _).symm (kk H locs ls X hP hD hS hl)
theorem z_idiv {x y : Int} (d : decode cc pc = .ok (.idiv, 1)) (gx : -2147483648 ≤ x ∧ x ≤ 2147483647) (gy : -2147483648 ≤ y ∧ y ≤ 2147483647) (g0 : ¬ y = 0) (hpc : pc + 1 = pc') (kk : Z p l e R s m args below meth c Q cc nL Ts own D J A ret nm cells slots ws lv pc' (.int (zi (zdiv x y)) :: rest)) : Z p l e R s m args below meth c Q cc nL Ts own D J A ret nm cells slots ws lv pc (.int (zi y) :: .int (zi x) :: rest) := by
  intro H locs ls X hP hD hS hl
  obtain ⟨⟨hx, hb, hml, hown, hts⟩, ⟨hK, hG⟩, hA, hr, hlk, hnm, het, hHH, hst0⟩ := id X
  subst hpc
  have kk := kk H locs ls X hP hD hS hl
  rw [show zi (zdiv x y) = _ from (zi_div gx gy).symm] at kk
  exact lv_idiv hx hb d (fun h => g0 ((zi_eq gy zr0).mp h)) kk
theorem z_irem {x y : Int} (d : decode cc pc = .ok (.irem, 1)) (gx : -2147483648 ≤ x ∧ x ≤ 2147483647) (gy : -2147483648 ≤ y ∧ y ≤ 2147483647) (g0 : ¬ y = 0) (hpc : pc + 1 = pc') (kk : Z p l e R s m args below meth c Q cc nL Ts own D J A ret nm cells slots ws lv pc' (.int (zi (zmod x y)) :: rest)) : Z p l e R s m args below meth c Q cc nL Ts own D J A ret nm cells slots ws lv pc (.int (zi y) :: .int (zi x) :: rest) := by
  intro H locs ls X hP hD hS hl
  obtain ⟨⟨hx, hb, hml, hown, hts⟩, ⟨hK, hG⟩, hA, hr, hlk, hnm, het, hHH, hst0⟩ := id X
  subst hpc
  have kk := kk H locs ls X hP hD hS hl
  rw [show zi (zmod x y) = _ from (zi_mod gx gy).symm] at kk
  exact lv_irem hx hb d (fun h => g0 ((zi_eq gy zr0).mp h)) kk
theorem z_ineg {x : Int} (d : decode cc pc = .ok (.ineg, 1)) (hpc : pc + 1 = pc') (kk : Z p l e R s m args below meth c Q cc nL Ts own D J A ret nm cells slots ws lv pc' (.int (zi (-x)) :: rest)) : Z p l e R s m args below meth c Q cc nL Ts own D J A ret nm cells slots ws lv pc (.int (zi x) :: rest) := by
  intro H locs ls X hP hD hS hl
  obtain ⟨⟨hx, hb, hml, hown, hts⟩, ⟨hK, hG⟩, hA, hr, hlk, hnm, het, hHH, hst0⟩ := id X
  subst hpc
  have kk := kk H locs ls X hP hD hS hl
  rw [show zi (-x) = _ from Int32.ofInt_neg x] at kk
  exact lv_ineg hx hb d kk
theorem z_ladd {x y : Int} (d : decode cc pc = .ok (.ladd, 1)) (hpc : pc + 1 = pc') (kk : Z p l e R s m args below meth c Q cc nL Ts own D J A ret nm cells slots ws lv pc' (.long (zl (x + y)) :: rest)) : Z p l e R s m args below meth c Q cc nL Ts own D J A ret nm cells slots ws lv pc (.long (zl y) :: .long (zl x) :: rest) := by
  intro H locs ls X hP hD hS hl
  obtain ⟨⟨hx, hb, hml, hown, hts⟩, ⟨hK, hG⟩, hA, hr, hlk, hnm, het, hHH, hst0⟩ := id X
  subst hpc
  have kk := kk H locs ls X hP hD hS hl
  rw [show zl (x + y) = _ from Int64.ofInt_add x y] at kk
  exact lv_ladd hx hb d kk
theorem z_lsub {x y : Int} (d : decode cc pc = .ok (.lsub, 1)) (hpc : pc + 1 = pc') (kk : Z p l e R s m args below meth c Q cc nL Ts own D J A ret nm cells slots ws lv pc' (.long (zl (x - y)) :: rest)) : Z p l e R s m args below meth c Q cc nL Ts own D J A ret nm cells slots ws lv pc (.long (zl y) :: .long (zl x) :: rest) := by
  intro H locs ls X hP hD hS hl
  obtain ⟨⟨hx, hb, hml, hown, hts⟩, ⟨hK, hG⟩, hA, hr, hlk, hnm, het, hHH, hst0⟩ := id X
  subst hpc
  have kk := kk H locs ls X hP hD hS hl
  rw [show zl (x - y) = _ from Int64.ofInt_sub x y] at kk
  exact lv_lsub hx hb d kk
theorem z_lmul {x y : Int} (d : decode cc pc = .ok (.lmul, 1)) (hpc : pc + 1 = pc') (kk : Z p l e R s m args below meth c Q cc nL Ts own D J A ret nm cells slots ws lv pc' (.long (zl (x * y)) :: rest)) : Z p l e R s m args below meth c Q cc nL Ts own D J A ret nm cells slots ws lv pc (.long (zl y) :: .long (zl x) :: rest) := by
  intro H locs ls X hP hD hS hl
  obtain ⟨⟨hx, hb, hml, hown, hts⟩, ⟨hK, hG⟩, hA, hr, hlk, hnm, het, hHH, hst0⟩ := id X
  subst hpc
  have kk := kk H locs ls X hP hD hS hl
  rw [show zl (x * y) = _ from Int64.ofInt_mul x y] at kk
  exact lv_lmul hx hb d kk
theorem z_lor {x y : Int} (d : decode cc pc = .ok (.lor, 1)) (hpc : pc + 1 = pc') (kk : Z p l e R s m args below meth c Q cc nL Ts own D J A ret nm cells slots ws lv pc' (.long (zl (zlor x y)) :: rest)) : Z p l e R s m args below meth c Q cc nL Ts own D J A ret nm cells slots ws lv pc (.long (zl y) :: .long (zl x) :: rest) := by
  intro H locs ls X hP hD hS hl
  obtain ⟨⟨hx, hb, hml, hown, hts⟩, ⟨hK, hG⟩, hA, hr, hlk, hnm, het, hHH, hst0⟩ := id X
  subst hpc
  have kk := kk H locs ls X hP hD hS hl
  rw [show zl (zlor x y) = _ from Int64.ofInt_toInt _] at kk
  exact lv_lor hx hb d kk
theorem z_land {x y : Int} (d : decode cc pc = .ok (.land, 1)) (hpc : pc + 1 = pc') (kk : Z p l e R s m args below meth c Q cc nL Ts own D J A ret nm cells slots ws lv pc' (.long (zl (zland x y)) :: rest)) : Z p l e R s m args below meth c Q cc nL Ts own D J A ret nm cells slots ws lv pc (.long (zl y) :: .long (zl x) :: rest) := by
  intro H locs ls X hP hD hS hl
  obtain ⟨⟨hx, hb, hml, hown, hts⟩, ⟨hK, hG⟩, hA, hr, hlk, hnm, het, hHH, hst0⟩ := id X
  subst hpc
  have kk := kk H locs ls X hP hD hS hl
  rw [show zl (zland x y) = _ from Int64.ofInt_toInt _] at kk
  exact lv_land hx hb d kk
theorem z_ldiv {x y : Int} (d : decode cc pc = .ok (.ldiv, 1)) (gx : -9223372036854775808 ≤ x ∧ x ≤ 9223372036854775807) (gy : -9223372036854775808 ≤ y ∧ y ≤ 9223372036854775807) (g0 : ¬ y = 0) (hpc : pc + 1 = pc') (kk : Z p l e R s m args below meth c Q cc nL Ts own D J A ret nm cells slots ws lv pc' (.long (zl (zdiv x y)) :: rest)) : Z p l e R s m args below meth c Q cc nL Ts own D J A ret nm cells slots ws lv pc (.long (zl y) :: .long (zl x) :: rest) := by
  intro H locs ls X hP hD hS hl
  obtain ⟨⟨hx, hb, hml, hown, hts⟩, ⟨hK, hG⟩, hA, hr, hlk, hnm, het, hHH, hst0⟩ := id X
  subst hpc
  have kk := kk H locs ls X hP hD hS hl
  rw [show zl (zdiv x y) = _ from (zl_div gx gy).symm] at kk
  exact lv_ldiv hx hb d (fun h => g0 ((zl_eq gy (by decide)).mp h)) kk
theorem z_lrem {x y : Int} (d : decode cc pc = .ok (.lrem, 1)) (gx : -9223372036854775808 ≤ x ∧ x ≤ 9223372036854775807) (gy : -9223372036854775808 ≤ y ∧ y ≤ 9223372036854775807) (g0 : ¬ y = 0) (hpc : pc + 1 = pc') (kk : Z p l e R s m args below meth c Q cc nL Ts own D J A ret nm cells slots ws lv pc' (.long (zl (zmod x y)) :: rest)) : Z p l e R s m args below meth c Q cc nL Ts own D J A ret nm cells slots ws lv pc (.long (zl y) :: .long (zl x) :: rest) := by
  intro H locs ls X hP hD hS hl
  obtain ⟨⟨hx, hb, hml, hown, hts⟩, ⟨hK, hG⟩, hA, hr, hlk, hnm, het, hHH, hst0⟩ := id X
  subst hpc
  have kk := kk H locs ls X hP hD hS hl
  rw [show zl (zmod x y) = _ from (zl_mod gx gy).symm] at kk
  exact lv_lrem hx hb d (fun h => g0 ((zl_eq gy (by decide)).mp h)) kk
theorem z_lushr {x y : Int} (d : decode cc pc = .ok (.lushr, 1)) (hpc : pc + 1 = pc') (kk : Z p l e R s m args below meth c Q cc nL Ts own D J A ret nm cells slots ws lv pc' (.long (zl (zlushr x y)) :: rest)) : Z p l e R s m args below meth c Q cc nL Ts own D J A ret nm cells slots ws lv pc (.int (zi y) :: .long (zl x) :: rest) := by
  intro H locs ls X hP hD hS hl
  obtain ⟨⟨hx, hb, hml, hown, hts⟩, ⟨hK, hG⟩, hA, hr, hlk, hnm, het, hHH, hst0⟩ := id X
  subst hpc
  exact lv_lushr hx hb d (Int64.ofInt_toInt _).symm (kk H locs ls X hP hD hS hl)
theorem z_lshl {x y : Int} (d : decode cc pc = .ok (.lshl, 1)) (hpc : pc + 1 = pc') (kk : Z p l e R s m args below meth c Q cc nL Ts own D J A ret nm cells slots ws lv pc' (.long (zl (zlshl x y)) :: rest)) : Z p l e R s m args below meth c Q cc nL Ts own D J A ret nm cells slots ws lv pc (.int (zi y) :: .long (zl x) :: rest) := by
  intro H locs ls X hP hD hS hl
  obtain ⟨⟨hx, hb, hml, hown, hts⟩, ⟨hK, hG⟩, hA, hr, hlk, hnm, het, hHH, hst0⟩ := id X
  subst hpc
  exact lv_lshl hx hb d (Int64.ofInt_toInt _).symm (kk H locs ls X hP hD hS hl)
theorem z_i2l {x : Int} (d : decode cc pc = .ok (.i2l, 1)) (gx : -2147483648 ≤ x ∧ x ≤ 2147483647) (hpc : pc + 1 = pc') (kk : Z p l e R s m args below meth c Q cc nL Ts own D J A ret nm cells slots ws lv pc' (.long (zl x) :: rest)) : Z p l e R s m args below meth c Q cc nL Ts own D J A ret nm cells slots ws lv pc (.int (zi x) :: rest) := by
  intro H locs ls X hP hD hS hl
  obtain ⟨⟨hx, hb, hml, hown, hts⟩, ⟨hK, hG⟩, hA, hr, hlk, hnm, het, hHH, hst0⟩ := id X
  subst hpc
  exact lv_i2l hx hb d (zi_l gx) (kk H locs ls X hP hD hS hl)
theorem z_l2i {x : Int} (d : decode cc pc = .ok (.l2i, 1)) (hpc : pc + 1 = pc') (kk : Z p l e R s m args below meth c Q cc nL Ts own D J A ret nm cells slots ws lv pc' (.int (zi x) :: rest)) : Z p l e R s m args below meth c Q cc nL Ts own D J A ret nm cells slots ws lv pc (.long (zl x) :: rest) := by
  intro H locs ls X hP hD hS hl
  obtain ⟨⟨hx, hb, hml, hown, hts⟩, ⟨hK, hG⟩, hA, hr, hlk, hnm, het, hHH, hst0⟩ := id X
  subst hpc
  exact lv_l2i hx hb d (zl_i x) (kk H locs ls X hP hD hS hl)
theorem z_i2c {x : Int} (d : decode cc pc = .ok (.i2c, 1)) (gx : 0 ≤ x ∧ x < 65536) (hpc : pc + 1 = pc') (kk : Z p l e R s m args below meth c Q cc nL Ts own D J A ret nm cells slots ws lv pc' (.int (zi x) :: rest)) : Z p l e R s m args below meth c Q cc nL Ts own D J A ret nm cells slots ws lv pc (.int (zi x) :: rest) := by
  intro H locs ls X hP hD hS hl
  obtain ⟨⟨hx, hb, hml, hown, hts⟩, ⟨hK, hG⟩, hA, hr, hlk, hnm, het, hHH, hst0⟩ := id X
  subst hpc
  exact lv_i2c hx hb d (zi_c gx) (kk H locs ls X hP hD hS hl)
theorem z_dup {va : Value} (d : decode cc pc = .ok (.dup, 1)) (h1 : va.category = 1) (hpc : pc + 1 = pc') (kk : Z p l e R s m args below meth c Q cc nL Ts own D J A ret nm cells slots ws lv pc' (va :: va :: rest)) : Z p l e R s m args below meth c Q cc nL Ts own D J A ret nm cells slots ws lv pc (va :: rest) := by
  intro H locs ls X hP hD hS hl
  obtain ⟨⟨hx, hb, hml, hown, hts⟩, ⟨hK, hG⟩, hA, hr, hlk, hnm, het, hHH, hst0⟩ := id X
  subst hpc
  exact lv_dup hx hb d h1 (kk H locs ls X hP hD hS hl)
theorem z_pop {va : Value} (d : decode cc pc = .ok (.pop, 1)) (h1 : va.category = 1) (hpc : pc + 1 = pc') (kk : Z p l e R s m args below meth c Q cc nL Ts own D J A ret nm cells slots ws lv pc' (rest)) : Z p l e R s m args below meth c Q cc nL Ts own D J A ret nm cells slots ws lv pc (va :: rest) := by
  intro H locs ls X hP hD hS hl
  obtain ⟨⟨hx, hb, hml, hown, hts⟩, ⟨hK, hG⟩, hA, hr, hlk, hnm, het, hHH, hst0⟩ := id X
  subst hpc
  exact lv_pop hx hb d h1 (kk H locs ls X hP hD hS hl)
theorem z_dup2 {va vb : Value} (d : decode cc pc = .ok (.dup2, 1)) (h1 : va.category = 1) (h2 : vb.category = 1) (hpc : pc + 1 = pc') (kk : Z p l e R s m args below meth c Q cc nL Ts own D J A ret nm cells slots ws lv pc' (va :: vb :: va :: vb :: rest)) : Z p l e R s m args below meth c Q cc nL Ts own D J A ret nm cells slots ws lv pc (va :: vb :: rest) := by
  intro H locs ls X hP hD hS hl
  obtain ⟨⟨hx, hb, hml, hown, hts⟩, ⟨hK, hG⟩, hA, hr, hlk, hnm, het, hHH, hst0⟩ := id X
  subst hpc
  exact lv_dup2_11 hx hb d h1 h2 (kk H locs ls X hP hD hS hl)
theorem z_dup_x1 {va vb : Value} (d : decode cc pc = .ok (.dup_x1, 1)) (h1 : va.category = 1) (h2 : vb.category = 1) (hpc : pc + 1 = pc') (kk : Z p l e R s m args below meth c Q cc nL Ts own D J A ret nm cells slots ws lv pc' (va :: vb :: va :: rest)) : Z p l e R s m args below meth c Q cc nL Ts own D J A ret nm cells slots ws lv pc (va :: vb :: rest) := by
  intro H locs ls X hP hD hS hl
  obtain ⟨⟨hx, hb, hml, hown, hts⟩, ⟨hK, hG⟩, hA, hr, hlk, hnm, het, hHH, hst0⟩ := id X
  subst hpc
  exact lv_dup_x1 hx hb d h1 h2 (kk H locs ls X hP hD hS hl)
theorem z_goto {off : Int} {tgt : Nat} (d : decode cc pc = .ok (.goto off, 3)) (ht : (pc : Int) + off = (tgt : Int)) (kk : Z p l e R s m args below meth c Q cc nL Ts own D J A ret nm cells slots ws lv tgt rest) : Z p l e R s m args below meth c Q cc nL Ts own D J A ret nm cells slots ws lv pc rest := by
  intro H locs ls X hP hD hS hl
  obtain ⟨⟨hx, hb, hml, hown, hts⟩, ⟨hK, hG⟩, hA, hr, hlk, hnm, het, hHH, hst0⟩ := id X
  exact lv_goto hx hb d ht (kk H locs ls X hP hD hS hl)
theorem z_icmp_eq {x y : Int} {off : Int} {tgt : Nat} (d : decode cc pc = .ok (.if_icmp .eq off, 3)) (ht : (pc : Int) + off = (tgt : Int)) (gx : -2147483648 ≤ x ∧ x ≤ 2147483647) (gy : -2147483648 ≤ y ∧ y ≤ 2147483647) (hpc : pc + 3 = pc') (kt : x = y → Z p l e R s m args below meth c Q cc nL Ts own D J A ret nm cells slots ws lv tgt rest) (kf : ¬ x = y → Z p l e R s m args below meth c Q cc nL Ts own D J A ret nm cells slots ws lv pc' rest) : Z p l e R s m args below meth c Q cc nL Ts own D J A ret nm cells slots ws lv pc (.int (zi y) :: .int (zi x) :: rest) := by
  intro H locs ls X hP hD hS hl
  obtain ⟨⟨hx, hb, hml, hown, hts⟩, ⟨hK, hG⟩, hA, hr, hlk, hnm, het, hHH, hst0⟩ := id X
  subst hpc
  exact lv_icmp_eq hx hb d ht (fun q => kt ((zi_eq gx gy).mp q) H locs ls X hP hD hS hl) (fun q => kf (fun z => q ((zi_eq gx gy).mpr z)) H locs ls X hP hD hS hl)
theorem z_if_eq {x : Int} {off : Int} {tgt : Nat} (d : decode cc pc = .ok (.ifCond .eq off, 3)) (ht : (pc : Int) + off = (tgt : Int)) (gx : -2147483648 ≤ x ∧ x ≤ 2147483647) (hpc : pc + 3 = pc') (kt : x = 0 → Z p l e R s m args below meth c Q cc nL Ts own D J A ret nm cells slots ws lv tgt rest) (kf : ¬ x = 0 → Z p l e R s m args below meth c Q cc nL Ts own D J A ret nm cells slots ws lv pc' rest) : Z p l e R s m args below meth c Q cc nL Ts own D J A ret nm cells slots ws lv pc (.int (zi x) :: rest) := by
  intro H locs ls X hP hD hS hl
  obtain ⟨⟨hx, hb, hml, hown, hts⟩, ⟨hK, hG⟩, hA, hr, hlk, hnm, het, hHH, hst0⟩ := id X
  subst hpc
  exact lv_if_eq hx hb d ht (fun q => kt ((zi_eq gx zr0).mp q) H locs ls X hP hD hS hl) (fun q => kf (fun z => q ((zi_eq gx zr0).mpr z)) H locs ls X hP hD hS hl)
theorem z_icmp_ne {x y : Int} {off : Int} {tgt : Nat} (d : decode cc pc = .ok (.if_icmp .ne off, 3)) (ht : (pc : Int) + off = (tgt : Int)) (gx : -2147483648 ≤ x ∧ x ≤ 2147483647) (gy : -2147483648 ≤ y ∧ y ≤ 2147483647) (hpc : pc + 3 = pc') (kt : ¬ x = y → Z p l e R s m args below meth c Q cc nL Ts own D J A ret nm cells slots ws lv tgt rest) (kf : x = y → Z p l e R s m args below meth c Q cc nL Ts own D J A ret nm cells slots ws lv pc' rest) : Z p l e R s m args below meth c Q cc nL Ts own D J A ret nm cells slots ws lv pc (.int (zi y) :: .int (zi x) :: rest) := by
  intro H locs ls X hP hD hS hl
  obtain ⟨⟨hx, hb, hml, hown, hts⟩, ⟨hK, hG⟩, hA, hr, hlk, hnm, het, hHH, hst0⟩ := id X
  subst hpc
  exact lv_icmp_ne hx hb d ht (fun q => kt (fun z => q ((zi_eq gx gy).mpr z)) H locs ls X hP hD hS hl) (fun q => kf ((zi_eq gx gy).mp q) H locs ls X hP hD hS hl)
theorem z_if_ne {x : Int} {off : Int} {tgt : Nat} (d : decode cc pc = .ok (.ifCond .ne off, 3)) (ht : (pc : Int) + off = (tgt : Int)) (gx : -2147483648 ≤ x ∧ x ≤ 2147483647) (hpc : pc + 3 = pc') (kt : ¬ x = 0 → Z p l e R s m args below meth c Q cc nL Ts own D J A ret nm cells slots ws lv tgt rest) (kf : x = 0 → Z p l e R s m args below meth c Q cc nL Ts own D J A ret nm cells slots ws lv pc' rest) : Z p l e R s m args below meth c Q cc nL Ts own D J A ret nm cells slots ws lv pc (.int (zi x) :: rest) := by
  intro H locs ls X hP hD hS hl
  obtain ⟨⟨hx, hb, hml, hown, hts⟩, ⟨hK, hG⟩, hA, hr, hlk, hnm, het, hHH, hst0⟩ := id X
  subst hpc
  exact lv_if_ne hx hb d ht (fun q => kt (fun z => q ((zi_eq gx zr0).mpr z)) H locs ls X hP hD hS hl) (fun q => kf ((zi_eq gx zr0).mp q) H locs ls X hP hD hS hl)
theorem z_icmp_lt {x y : Int} {off : Int} {tgt : Nat} (d : decode cc pc = .ok (.if_icmp .lt off, 3)) (ht : (pc : Int) + off = (tgt : Int)) (gx : -2147483648 ≤ x ∧ x ≤ 2147483647) (gy : -2147483648 ≤ y ∧ y ≤ 2147483647) (hpc : pc + 3 = pc') (kt : x < y → Z p l e R s m args below meth c Q cc nL Ts own D J A ret nm cells slots ws lv tgt rest) (kf : ¬ x < y → Z p l e R s m args below meth c Q cc nL Ts own D J A ret nm cells slots ws lv pc' rest) : Z p l e R s m args below meth c Q cc nL Ts own D J A ret nm cells slots ws lv pc (.int (zi y) :: .int (zi x) :: rest) := by
  intro H locs ls X hP hD hS hl
  obtain ⟨⟨hx, hb, hml, hown, hts⟩, ⟨hK, hG⟩, hA, hr, hlk, hnm, het, hHH, hst0⟩ := id X
  subst hpc
  exact lv_icmp_lt hx hb d ht (fun q => kt ((zi_lt gx gy).mp q) H locs ls X hP hD hS hl) (fun q => kf (fun z => q ((zi_lt gx gy).mpr z)) H locs ls X hP hD hS hl)
theorem z_if_lt {x : Int} {off : Int} {tgt : Nat} (d : decode cc pc = .ok (.ifCond .lt off, 3)) (ht : (pc : Int) + off = (tgt : Int)) (gx : -2147483648 ≤ x ∧ x ≤ 2147483647) (hpc : pc + 3 = pc') (kt : x < 0 → Z p l e R s m args below meth c Q cc nL Ts own D J A ret nm cells slots ws lv tgt rest) (kf : ¬ x < 0 → Z p l e R s m args below meth c Q cc nL Ts own D J A ret nm cells slots ws lv pc' rest) : Z p l e R s m args below meth c Q cc nL Ts own D J A ret nm cells slots ws lv pc (.int (zi x) :: rest) := by
  intro H locs ls X hP hD hS hl
  obtain ⟨⟨hx, hb, hml, hown, hts⟩, ⟨hK, hG⟩, hA, hr, hlk, hnm, het, hHH, hst0⟩ := id X
  subst hpc
  exact lv_if_lt hx hb d ht (fun q => kt ((zi_lt gx zr0).mp q) H locs ls X hP hD hS hl) (fun q => kf (fun z => q ((zi_lt gx zr0).mpr z)) H locs ls X hP hD hS hl)
theorem z_icmp_ge {x y : Int} {off : Int} {tgt : Nat} (d : decode cc pc = .ok (.if_icmp .ge off, 3)) (ht : (pc : Int) + off = (tgt : Int)) (gx : -2147483648 ≤ x ∧ x ≤ 2147483647) (gy : -2147483648 ≤ y ∧ y ≤ 2147483647) (hpc : pc + 3 = pc') (kt : ¬ x < y → Z p l e R s m args below meth c Q cc nL Ts own D J A ret nm cells slots ws lv tgt rest) (kf : x < y → Z p l e R s m args below meth c Q cc nL Ts own D J A ret nm cells slots ws lv pc' rest) : Z p l e R s m args below meth c Q cc nL Ts own D J A ret nm cells slots ws lv pc (.int (zi y) :: .int (zi x) :: rest) := by
  intro H locs ls X hP hD hS hl
  obtain ⟨⟨hx, hb, hml, hown, hts⟩, ⟨hK, hG⟩, hA, hr, hlk, hnm, het, hHH, hst0⟩ := id X
  subst hpc
  exact lv_icmp_ge hx hb d ht (fun q => kt (fun z => (Int32.not_lt.mpr q) ((zi_lt gx gy).mpr z)) H locs ls X hP hD hS hl) (fun q => kf ((zi_lt gx gy).mp (Int32.not_le.mp q)) H locs ls X hP hD hS hl)
theorem z_if_ge {x : Int} {off : Int} {tgt : Nat} (d : decode cc pc = .ok (.ifCond .ge off, 3)) (ht : (pc : Int) + off = (tgt : Int)) (gx : -2147483648 ≤ x ∧ x ≤ 2147483647) (hpc : pc + 3 = pc') (kt : ¬ x < 0 → Z p l e R s m args below meth c Q cc nL Ts own D J A ret nm cells slots ws lv tgt rest) (kf : x < 0 → Z p l e R s m args below meth c Q cc nL Ts own D J A ret nm cells slots ws lv pc' rest) : Z p l e R s m args below meth c Q cc nL Ts own D J A ret nm cells slots ws lv pc (.int (zi x) :: rest) := by
  intro H locs ls X hP hD hS hl
  obtain ⟨⟨hx, hb, hml, hown, hts⟩, ⟨hK, hG⟩, hA, hr, hlk, hnm, het, hHH, hst0⟩ := id X
  subst hpc
  exact lv_if_ge hx hb d ht (fun q => kt (fun z => (Int32.not_lt.mpr q) ((zi_lt gx zr0).mpr z)) H locs ls X hP hD hS hl) (fun q => kf ((zi_lt gx zr0).mp (Int32.not_le.mp q)) H locs ls X hP hD hS hl)
theorem z_icmp_gt {x y : Int} {off : Int} {tgt : Nat} (d : decode cc pc = .ok (.if_icmp .gt off, 3)) (ht : (pc : Int) + off = (tgt : Int)) (gx : -2147483648 ≤ x ∧ x ≤ 2147483647) (gy : -2147483648 ≤ y ∧ y ≤ 2147483647) (hpc : pc + 3 = pc') (kt : y < x → Z p l e R s m args below meth c Q cc nL Ts own D J A ret nm cells slots ws lv tgt rest) (kf : ¬ y < x → Z p l e R s m args below meth c Q cc nL Ts own D J A ret nm cells slots ws lv pc' rest) : Z p l e R s m args below meth c Q cc nL Ts own D J A ret nm cells slots ws lv pc (.int (zi y) :: .int (zi x) :: rest) := by
  intro H locs ls X hP hD hS hl
  obtain ⟨⟨hx, hb, hml, hown, hts⟩, ⟨hK, hG⟩, hA, hr, hlk, hnm, het, hHH, hst0⟩ := id X
  subst hpc
  exact lv_icmp_gt hx hb d ht (fun q => kt ((zi_lt gy gx).mp q) H locs ls X hP hD hS hl) (fun q => kf (fun z => q ((zi_lt gy gx).mpr z)) H locs ls X hP hD hS hl)
theorem z_if_gt {x : Int} {off : Int} {tgt : Nat} (d : decode cc pc = .ok (.ifCond .gt off, 3)) (ht : (pc : Int) + off = (tgt : Int)) (gx : -2147483648 ≤ x ∧ x ≤ 2147483647) (hpc : pc + 3 = pc') (kt : 0 < x → Z p l e R s m args below meth c Q cc nL Ts own D J A ret nm cells slots ws lv tgt rest) (kf : ¬ 0 < x → Z p l e R s m args below meth c Q cc nL Ts own D J A ret nm cells slots ws lv pc' rest) : Z p l e R s m args below meth c Q cc nL Ts own D J A ret nm cells slots ws lv pc (.int (zi x) :: rest) := by
  intro H locs ls X hP hD hS hl
  obtain ⟨⟨hx, hb, hml, hown, hts⟩, ⟨hK, hG⟩, hA, hr, hlk, hnm, het, hHH, hst0⟩ := id X
  subst hpc
  exact lv_if_gt hx hb d ht (fun q => kt ((zi_lt zr0 gx).mp q) H locs ls X hP hD hS hl) (fun q => kf (fun z => q ((zi_lt zr0 gx).mpr z)) H locs ls X hP hD hS hl)
theorem z_icmp_le {x y : Int} {off : Int} {tgt : Nat} (d : decode cc pc = .ok (.if_icmp .le off, 3)) (ht : (pc : Int) + off = (tgt : Int)) (gx : -2147483648 ≤ x ∧ x ≤ 2147483647) (gy : -2147483648 ≤ y ∧ y ≤ 2147483647) (hpc : pc + 3 = pc') (kt : ¬ y < x → Z p l e R s m args below meth c Q cc nL Ts own D J A ret nm cells slots ws lv tgt rest) (kf : y < x → Z p l e R s m args below meth c Q cc nL Ts own D J A ret nm cells slots ws lv pc' rest) : Z p l e R s m args below meth c Q cc nL Ts own D J A ret nm cells slots ws lv pc (.int (zi y) :: .int (zi x) :: rest) := by
  intro H locs ls X hP hD hS hl
  obtain ⟨⟨hx, hb, hml, hown, hts⟩, ⟨hK, hG⟩, hA, hr, hlk, hnm, het, hHH, hst0⟩ := id X
  subst hpc
  exact lv_icmp_le hx hb d ht (fun q => kt (fun z => (Int32.not_lt.mpr q) ((zi_lt gy gx).mpr z)) H locs ls X hP hD hS hl) (fun q => kf ((zi_lt gy gx).mp (Int32.not_le.mp q)) H locs ls X hP hD hS hl)
theorem z_if_le {x : Int} {off : Int} {tgt : Nat} (d : decode cc pc = .ok (.ifCond .le off, 3)) (ht : (pc : Int) + off = (tgt : Int)) (gx : -2147483648 ≤ x ∧ x ≤ 2147483647) (hpc : pc + 3 = pc') (kt : ¬ 0 < x → Z p l e R s m args below meth c Q cc nL Ts own D J A ret nm cells slots ws lv tgt rest) (kf : 0 < x → Z p l e R s m args below meth c Q cc nL Ts own D J A ret nm cells slots ws lv pc' rest) : Z p l e R s m args below meth c Q cc nL Ts own D J A ret nm cells slots ws lv pc (.int (zi x) :: rest) := by
  intro H locs ls X hP hD hS hl
  obtain ⟨⟨hx, hb, hml, hown, hts⟩, ⟨hK, hG⟩, hA, hr, hlk, hnm, het, hHH, hst0⟩ := id X
  subst hpc
  exact lv_if_le hx hb d ht (fun q => kt (fun z => (Int32.not_lt.mpr q) ((zi_lt zr0 gx).mpr z)) H locs ls X hP hD hS hl) (fun q => kf ((zi_lt zr0 gx).mp (Int32.not_le.mp q)) H locs ls X hP hD hS hl)
theorem z_lcmp_eq {x y : Int} {off : Int} {tgt : Nat} (d0 : decode cc pc = .ok (.lcmp, 1)) (d : decode cc (pc + 1) = .ok (.ifCond .eq off, 3)) (ht : ((pc + 1 : Nat) : Int) + off = (tgt : Int)) (gx : -9223372036854775808 ≤ x ∧ x ≤ 9223372036854775807) (gy : -9223372036854775808 ≤ y ∧ y ≤ 9223372036854775807) (hpc : pc + 4 = pc') (kt : x = y → Z p l e R s m args below meth c Q cc nL Ts own D J A ret nm cells slots ws lv tgt rest) (kf : ¬ x = y → Z p l e R s m args below meth c Q cc nL Ts own D J A ret nm cells slots ws lv pc' rest) : Z p l e R s m args below meth c Q cc nL Ts own D J A ret nm cells slots ws lv pc (.long (zl y) :: .long (zl x) :: rest) := by
  intro H locs ls X hP hD hS hl
  obtain ⟨⟨hx, hb, hml, hown, hts⟩, ⟨hK, hG⟩, hA, hr, hlk, hnm, het, hHH, hst0⟩ := id X
  refine W.lcmp hx hb d0 ?_
  rw [zl_cmp gx gy]
  refine z_if_eq (own := own) (D := D) (J := J) (A := A) (ret := ret) (nm := nm) (ws := ws) (lv := lv) d ht (zcmp_r x y) hpc (fun q => kt ?_) (fun q => kf ?_) H locs ls X hP hD hS hl
  · have := zcmp_s x y; omega
  · have := zcmp_s x y; omega
theorem z_lcmp_ne {x y : Int} {off : Int} {tgt : Nat} (d0 : decode cc pc = .ok (.lcmp, 1)) (d : decode cc (pc + 1) = .ok (.ifCond .ne off, 3)) (ht : ((pc + 1 : Nat) : Int) + off = (tgt : Int)) (gx : -9223372036854775808 ≤ x ∧ x ≤ 9223372036854775807) (gy : -9223372036854775808 ≤ y ∧ y ≤ 9223372036854775807) (hpc : pc + 4 = pc') (kt : ¬ x = y → Z p l e R s m args below meth c Q cc nL Ts own D J A ret nm cells slots ws lv tgt rest) (kf : x = y → Z p l e R s m args below meth c Q cc nL Ts own D J A ret nm cells slots ws lv pc' rest) : Z p l e R s m args below meth c Q cc nL Ts own D J A ret nm cells slots ws lv pc (.long (zl y) :: .long (zl x) :: rest) := by
  intro H locs ls X hP hD hS hl
  obtain ⟨⟨hx, hb, hml, hown, hts⟩, ⟨hK, hG⟩, hA, hr, hlk, hnm, het, hHH, hst0⟩ := id X
  refine W.lcmp hx hb d0 ?_
  rw [zl_cmp gx gy]
  refine z_if_ne (own := own) (D := D) (J := J) (A := A) (ret := ret) (nm := nm) (ws := ws) (lv := lv) d ht (zcmp_r x y) hpc (fun q => kt ?_) (fun q => kf ?_) H locs ls X hP hD hS hl
  · have := zcmp_s x y; omega
  · have := zcmp_s x y; omega
theorem z_lcmp_lt {x y : Int} {off : Int} {tgt : Nat} (d0 : decode cc pc = .ok (.lcmp, 1)) (d : decode cc (pc + 1) = .ok (.ifCond .lt off, 3)) (ht : ((pc + 1 : Nat) : Int) + off = (tgt : Int)) (gx : -9223372036854775808 ≤ x ∧ x ≤ 9223372036854775807) (gy : -9223372036854775808 ≤ y ∧ y ≤ 9223372036854775807) (hpc : pc + 4 = pc') (kt : x < y → Z p l e R s m args below meth c Q cc nL Ts own D J A ret nm cells slots ws lv tgt rest) (kf : ¬ x < y → Z p l e R s m args below meth c Q cc nL Ts own D J A ret nm cells slots ws lv pc' rest) : Z p l e R s m args below meth c Q cc nL Ts own D J A ret nm cells slots ws lv pc (.long (zl y) :: .long (zl x) :: rest) := by
  intro H locs ls X hP hD hS hl
  obtain ⟨⟨hx, hb, hml, hown, hts⟩, ⟨hK, hG⟩, hA, hr, hlk, hnm, het, hHH, hst0⟩ := id X
  refine W.lcmp hx hb d0 ?_
  rw [zl_cmp gx gy]
  refine z_if_lt (own := own) (D := D) (J := J) (A := A) (ret := ret) (nm := nm) (ws := ws) (lv := lv) d ht (zcmp_r x y) hpc (fun q => kt ?_) (fun q => kf ?_) H locs ls X hP hD hS hl
  · have := zcmp_s x y; omega
  · have := zcmp_s x y; omega
theorem z_lcmp_ge {x y : Int} {off : Int} {tgt : Nat} (d0 : decode cc pc = .ok (.lcmp, 1)) (d : decode cc (pc + 1) = .ok (.ifCond .ge off, 3)) (ht : ((pc + 1 : Nat) : Int) + off = (tgt : Int)) (gx : -9223372036854775808 ≤ x ∧ x ≤ 9223372036854775807) (gy : -9223372036854775808 ≤ y ∧ y ≤ 9223372036854775807) (hpc : pc + 4 = pc') (kt : ¬ x < y → Z p l e R s m args below meth c Q cc nL Ts own D J A ret nm cells slots ws lv tgt rest) (kf : x < y → Z p l e R s m args below meth c Q cc nL Ts own D J A ret nm cells slots ws lv pc' rest) : Z p l e R s m args below meth c Q cc nL Ts own D J A ret nm cells slots ws lv pc (.long (zl y) :: .long (zl x) :: rest) := by
  intro H locs ls X hP hD hS hl
  obtain ⟨⟨hx, hb, hml, hown, hts⟩, ⟨hK, hG⟩, hA, hr, hlk, hnm, het, hHH, hst0⟩ := id X
  refine W.lcmp hx hb d0 ?_
  rw [zl_cmp gx gy]
  refine z_if_ge (own := own) (D := D) (J := J) (A := A) (ret := ret) (nm := nm) (ws := ws) (lv := lv) d ht (zcmp_r x y) hpc (fun q => kt ?_) (fun q => kf ?_) H locs ls X hP hD hS hl
  · have := zcmp_s x y; omega
  · have := zcmp_s x y; omega
theorem z_lcmp_gt {x y : Int} {off : Int} {tgt : Nat} (d0 : decode cc pc = .ok (.lcmp, 1)) (d : decode cc (pc + 1) = .ok (.ifCond .gt off, 3)) (ht : ((pc + 1 : Nat) : Int) + off = (tgt : Int)) (gx : -9223372036854775808 ≤ x ∧ x ≤ 9223372036854775807) (gy : -9223372036854775808 ≤ y ∧ y ≤ 9223372036854775807) (hpc : pc + 4 = pc') (kt : y < x → Z p l e R s m args below meth c Q cc nL Ts own D J A ret nm cells slots ws lv tgt rest) (kf : ¬ y < x → Z p l e R s m args below meth c Q cc nL Ts own D J A ret nm cells slots ws lv pc' rest) : Z p l e R s m args below meth c Q cc nL Ts own D J A ret nm cells slots ws lv pc (.long (zl y) :: .long (zl x) :: rest) := by
  intro H locs ls X hP hD hS hl
  obtain ⟨⟨hx, hb, hml, hown, hts⟩, ⟨hK, hG⟩, hA, hr, hlk, hnm, het, hHH, hst0⟩ := id X
  refine W.lcmp hx hb d0 ?_
  rw [zl_cmp gx gy]
  refine z_if_gt (own := own) (D := D) (J := J) (A := A) (ret := ret) (nm := nm) (ws := ws) (lv := lv) d ht (zcmp_r x y) hpc (fun q => kt ?_) (fun q => kf ?_) H locs ls X hP hD hS hl
  · have := zcmp_s x y; omega
  · have := zcmp_s x y; omega
theorem z_lcmp_le {x y : Int} {off : Int} {tgt : Nat} (d0 : decode cc pc = .ok (.lcmp, 1)) (d : decode cc (pc + 1) = .ok (.ifCond .le off, 3)) (ht : ((pc + 1 : Nat) : Int) + off = (tgt : Int)) (gx : -9223372036854775808 ≤ x ∧ x ≤ 9223372036854775807) (gy : -9223372036854775808 ≤ y ∧ y ≤ 9223372036854775807) (hpc : pc + 4 = pc') (kt : ¬ y < x → Z p l e R s m args below meth c Q cc nL Ts own D J A ret nm cells slots ws lv tgt rest) (kf : y < x → Z p l e R s m args below meth c Q cc nL Ts own D J A ret nm cells slots ws lv pc' rest) : Z p l e R s m args below meth c Q cc nL Ts own D J A ret nm cells slots ws lv pc (.long (zl y) :: .long (zl x) :: rest) := by
  intro H locs ls X hP hD hS hl
  obtain ⟨⟨hx, hb, hml, hown, hts⟩, ⟨hK, hG⟩, hA, hr, hlk, hnm, het, hHH, hst0⟩ := id X
  refine W.lcmp hx hb d0 ?_
  rw [zl_cmp gx gy]
  refine z_if_le (own := own) (D := D) (J := J) (A := A) (ret := ret) (nm := nm) (ws := ws) (lv := lv) d ht (zcmp_r x y) hpc (fun q => kt ?_) (fun q => kf ?_) H locs ls X hP hD hS hl
  · have := zcmp_s x y; omega
  · have := zcmp_s x y; omega
theorem z_tableOut {dflt lo hi : Int} {offs : Array Int} {len : Nat} {x : Int} {tgt : Nat} (d : decode cc pc = .ok (.tableswitch dflt lo hi offs, len)) (gx : -2147483648 ≤ x ∧ x ≤ 2147483647) (h : x < lo ∨ hi < x) (ht : (pc : Int) + dflt = (tgt : Int)) (kk : Z p l e R s m args below meth c Q cc nL Ts own D J A ret nm cells slots ws lv tgt rest) : Z p l e R s m args below meth c Q cc nL Ts own D J A ret nm cells slots ws lv pc (.int (zi x) :: rest) := by
  intro H locs ls X hP hD hS hl
  obtain ⟨⟨hx, hb, hml, hown, hts⟩, ⟨hK, hG⟩, hA, hr, hlk, hnm, het, hHH, hst0⟩ := id X
  exact lv_tableOut hx hb d (by rw [zi_toInt gx]; exact h) ht (kk H locs ls X hP hD hS hl)
theorem z_tableIn {dflt lo hi : Int} {offs : Array Int} {len : Nat} {x k off : Int} {tgt : Nat} (d : decode cc pc = .ok (.tableswitch dflt lo hi offs, len)) (hk : x = k) (gx : -2147483648 ≤ x ∧ x ≤ 2147483647) (h1 : ¬ k < lo) (h2 : ¬ hi < k) (ho : offs[(k - lo).toNat]? = some off) (ht : (pc : Int) + off = (tgt : Int)) (kk : Z p l e R s m args below meth c Q cc nL Ts own D J A ret nm cells slots ws lv tgt rest) : Z p l e R s m args below meth c Q cc nL Ts own D J A ret nm cells slots ws lv pc (.int (zi x) :: rest) := by
  intro H locs ls X hP hD hS hl
  obtain ⟨⟨hx, hb, hml, hown, hts⟩, ⟨hK, hG⟩, hA, hr, hlk, hnm, het, hHH, hst0⟩ := id X
  subst hk
  exact lv_tableIn hx hb d (by rw [zi_toInt gx]; exact h1) (by rw [zi_toInt gx]; exact h2) (by rw [zi_toInt gx]; exact ho) ht (kk H locs ls X hP hD hS hl)
theorem z_getfield {index ci N a : Nat} {C : String} {T : u_T} {fs : List Value} {v : Value} (q0 k : Nat) (d : decode cc pc = .ok (.getfield index, 3)) (hin : ∀ w ∈ u_ws C T N, w ∈ Ts) (he : ws[q0]? = some (a, .inr (ci, fs))) (hc : vwCl[ci]? = some (C, T, N)) (hk : k < N) (hlf : Cond.fieldLink own index (T k).1 (T k).2.1 (T k).2.2.1 ∈ Ts) (hv : fs[k]? = some v) (hpc : pc + 3 = pc') (kk : Z p l e R s m args below meth c Q cc nL Ts own D J A ret nm cells slots ws lv pc' (v :: rest)) : Z p l e R s m args below meth c Q cc nL Ts own D J A ret nm cells slots ws lv pc (.ref a :: rest) := by
  intro H locs ls X hP hD hS hl
  obtain ⟨⟨hx, hb, hml, hown, hts⟩, ⟨hK, hG⟩, hA, hr, hlk, hnm, het, hHH, hst0⟩ := id X
  subst hpc
  exact va_get hx hb hts hin hown hK hP q0 he hc k hk (hts _ hlf) (fun _ h => h) hv d (kk H locs ls X hP hD hS hl)
theorem z_putfield {index ci N a : Nat} {C : String} {T : u_T} {fs : List Value} {v : Value} {ty : FieldType} (q0 k : Nat) (ws' : va_W) (ty0 : Nat → FieldType) (hty : ∀ k, k < N → parseFieldDescriptor (T k).2.2.1 = some (ty0 k)) (hnf : ∀ a, a < N → ∀ b, b < N → a ≠ b → (T a).2.1 ≠ (T b).2.1) (d : decode cc pc = .ok (.putfield index, 3)) (hin : ∀ w ∈ u_ws C T N, w ∈ Ts) (he : ws[q0]? = some (a, .inr (ci, fs))) (hc : vwCl[ci]? = some (C, T, N)) (hk : k < N) (hlf : Cond.fieldLink own index (T k).1 (T k).2.1 (T k).2.2.1 ∈ Ts) (hfin : (T k).2.2.2 = false) (hd : parseFieldDescriptor (T k).2.2.1 = some ty) (hn : narrow ty v = v) (hfit : fits ty v = true) (hl9 : k < fs.length) (hcat : v.category = 1) (hw : ws.set q0 (a, .inr (ci, fs.set k v)) = ws') (hpc : pc + 3 = pc') (kk : Z p l e R s m args below meth c Q cc nL Ts own D J A ret nm cells slots ws' lv pc' rest) : Z p l e R s m args below meth c Q cc nL Ts own D J A ret nm cells slots ws lv pc (v :: .ref a :: rest) := by
  intro H locs ls X hP hD hS hl
  obtain ⟨⟨hx, hb, hml, hown, hts⟩, ⟨hK, hG⟩, hA, hr, hlk, hnm, het, hHH, hst0⟩ := id X
  subst hpc
  subst hw
  exact va_put hx hb hts hin ty0 hty hnf hown hK hP hD hS q0 he hc k hk (hts _ hlf) (fun _ h => h) hfin hd hn hfit hl9 d (fun H1 locs1 hP1 hD1 hS1 => kk H1 locs1 ls X hP1 hD1 hS1 hl)
theorem z_iaload {n a : Nat} {f : Nat → Int} {x : Int} (q0 : Nat) (d : decode cc pc = .ok (.iaload, 1)) (he : ws[q0]? = some (a, zI J n f)) (hn : n ≤ 2147483647) (gx : 0 ≤ x ∧ x < (n : Int)) (hpc : pc + 1 = pc') (kk : Z p l e R s m args below meth c Q cc nL Ts own D J A ret nm cells slots ws lv pc' (.int (zi (f x.toNat)) :: rest)) : Z p l e R s m args below meth c Q cc nL Ts own D J A ret nm cells slots ws lv pc (.int (zi x) :: .ref a :: rest) := by
  intro H locs ls X hP hD hS hl
  obtain ⟨⟨hx, hb, hml, hown, hts⟩, ⟨hK, hG⟩, hA, hr, hlk, hnm, het, hHH, hst0⟩ := id X
  subst hpc
  refine va_iald hx hb hK hP q0 0 he rfl (zi_in gx hn) d ?_
  rw [zi_cl gx hn]
  exact kk H locs ls X hP hD hS hl
theorem z_caload {n a : Nat} {f : Nat → Int} {x : Int} (q0 : Nat) (d : decode cc pc = .ok (.caload, 1)) (he : ws[q0]? = some (a, zC J n f)) (hn : n ≤ 2147483647) (gx : 0 ≤ x ∧ x < (n : Int)) (hpc : pc + 1 = pc') (kk : Z p l e R s m args below meth c Q cc nL Ts own D J A ret nm cells slots ws lv pc' (.int (zi (f x.toNat)) :: rest)) : Z p l e R s m args below meth c Q cc nL Ts own D J A ret nm cells slots ws lv pc (.int (zi x) :: .ref a :: rest) := by
  intro H locs ls X hP hD hS hl
  obtain ⟨⟨hx, hb, hml, hown, hts⟩, ⟨hK, hG⟩, hA, hr, hlk, hnm, het, hHH, hst0⟩ := id X
  subst hpc
  refine va_cald hx hb hK hP q0 1 he rfl (zi_in gx hn) d ?_
  rw [zi_cl gx hn]
  exact kk H locs ls X hP hD hS hl
theorem z_baload {n a : Nat} {f : Nat → Int} {x : Int} (q0 : Nat) (d : decode cc pc = .ok (.baload, 1)) (he : ws[q0]? = some (a, zB J n f)) (hn : n ≤ 2147483647) (gx : 0 ≤ x ∧ x < (n : Int)) (hpc : pc + 1 = pc') (kk : Z p l e R s m args below meth c Q cc nL Ts own D J A ret nm cells slots ws lv pc' (.int (zi (f x.toNat)) :: rest)) : Z p l e R s m args below meth c Q cc nL Ts own D J A ret nm cells slots ws lv pc (.int (zi x) :: .ref a :: rest) := by
  intro H locs ls X hP hD hS hl
  obtain ⟨⟨hx, hb, hml, hown, hts⟩, ⟨hK, hG⟩, hA, hr, hlk, hnm, het, hHH, hst0⟩ := id X
  subst hpc
  refine va_zald hx hb hK hP q0 2 he rfl (zi_in gx hn) d ?_
  rw [zi_cl gx hn]
  exact kk H locs ls X hP hD hS hl
theorem z_iastore {n a : Nat} {f : Nat → Int} {x v : Int} (q0 : Nat) (ws' : va_W) (d : decode cc pc = .ok (.iastore, 1)) (he : ws[q0]? = some (a, zI J n f)) (hn : n ≤ 2147483647) (gx : 0 ≤ x ∧ x < (n : Int)) (hw : ws.set q0 (a, zI J n (va_up f x.toNat v)) = ws') (hpc : pc + 1 = pc') (kk : Z p l e R s m args below meth c Q cc nL Ts own D J A ret nm cells slots ws' lv pc' rest) : Z p l e R s m args below meth c Q cc nL Ts own D J A ret nm cells slots ws lv pc (.int (zi v) :: .int (zi x) :: .ref a :: rest) := by
  intro H locs ls X hP hD hS hl
  obtain ⟨⟨hx, hb, hml, hown, hts⟩, ⟨hK, hG⟩, hA, hr, hlk, hnm, het, hHH, hst0⟩ := id X
  subst hpc
  subst hw
  refine va_iast hx hb hK hP hD hS q0 0 he rfl (zi_in gx hn) d (fun H1 locs1 hP1 hD1 hS1 => ?_)
  rw [zi_cl gx hn, zup_i] at hP1 hD1
  exact kk H1 locs1 ls X hP1 hD1 hS1 hl
theorem z_castore {n a : Nat} {f : Nat → Int} {x v : Int} (q0 : Nat) (ws' : va_W) (d : decode cc pc = .ok (.castore, 1)) (he : ws[q0]? = some (a, zC J n f)) (hn : n ≤ 2147483647) (gx : 0 ≤ x ∧ x < (n : Int)) (gv : 0 ≤ v ∧ v < 65536) (hw : ws.set q0 (a, zC J n (va_up f x.toNat v)) = ws') (hpc : pc + 1 = pc') (kk : Z p l e R s m args below meth c Q cc nL Ts own D J A ret nm cells slots ws' lv pc' rest) : Z p l e R s m args below meth c Q cc nL Ts own D J A ret nm cells slots ws lv pc (.int (zi v) :: .int (zi x) :: .ref a :: rest) := by
  intro H locs ls X hP hD hS hl
  obtain ⟨⟨hx, hb, hml, hown, hts⟩, ⟨hK, hG⟩, hA, hr, hlk, hnm, het, hHH, hst0⟩ := id X
  subst hpc
  subst hw
  refine va_cast hx hb hK hP hD hS q0 1 he rfl (zi_in gx hn) d (fun H1 locs1 hP1 hD1 hS1 => ?_)
  rw [zi_cl gx hn, zn_c gv, zup_i] at hP1 hD1
  exact kk H1 locs1 ls X hP1 hD1 hS1 hl
theorem z_bastore {n a : Nat} {f : Nat → Int} {x v : Int} (q0 : Nat) (ws' : va_W) (d : decode cc pc = .ok (.bastore, 1)) (he : ws[q0]? = some (a, zB J n f)) (hn : n ≤ 2147483647) (gx : 0 ≤ x ∧ x < (n : Int)) (gv : v = 0 ∨ v = 1) (hw : ws.set q0 (a, zB J n (va_up f x.toNat v)) = ws') (hpc : pc + 1 = pc') (kk : Z p l e R s m args below meth c Q cc nL Ts own D J A ret nm cells slots ws' lv pc' rest) : Z p l e R s m args below meth c Q cc nL Ts own D J A ret nm cells slots ws lv pc (.int (zi v) :: .int (zi x) :: .ref a :: rest) := by
  intro H locs ls X hP hD hS hl
  obtain ⟨⟨hx, hb, hml, hown, hts⟩, ⟨hK, hG⟩, hA, hr, hlk, hnm, het, hHH, hst0⟩ := id X
  subst hpc
  subst hw
  refine va_zast hx hb hK hP hD hS q0 2 he rfl (zi_in gx hn) d (fun H1 locs1 hP1 hD1 hS1 => ?_)
  rw [zi_cl gx hn, zn_b gv, zup_i] at hP1 hD1
  exact kk H1 locs1 ls X hP1 hD1 hS1 hl
theorem z_alen {a : Nat} {x : vp_A} {t : Nat} {ty : FieldType} (q0 t0 : Nat) (d : decode cc pc = .ok (.arraylength, 1)) (he : ws[q0]? = some (a, .inl (J t, x))) (ht : (zT J)[t0]? = some (J t, ty)) {v : Int} (hv : ((x.1 : Nat) : Int) = v) (hpc : pc + 1 = pc') (kk : Z p l e R s m args below meth c Q cc nL Ts own D J A ret nm cells slots ws lv pc' (.int (zi v) :: rest)) : Z p l e R s m args below meth c Q cc nL Ts own D J A ret nm cells slots ws lv pc (.ref a :: rest) := by
  intro H locs ls X hP hD hS hl
  obtain ⟨⟨hx, hb, hml, hown, hts⟩, ⟨hK, hG⟩, hA, hr, hlk, hnm, het, hHH, hst0⟩ := id X
  subst hpc
  subst hv
  exact va_alen hx hb hK hP q0 t0 he ht (Int32.ofInt_eq_ofNat).symm d (kk H locs ls X hP hD hS hl)
theorem z_iret {Pr : Option Value → va_W → Prop} {v : Int32} (hty : ret = some .int) (d : decode cc pc = .ok (.ireturn, 1)) (hq : Pr (some (.int v)) ws) : Z p l e R s m args below meth c (MQ below (zQ D J A Pr) args s cells slots A) cc nL Ts own D J A ret nm cells slots ws lv pc [.int v] := by
  intro H locs ls X hP hD hS hl
  obtain ⟨⟨hx, hb, hml, hown, hts⟩, ⟨hK, hG⟩, hA, hr, hlk, hnm, het, hHH, hst0⟩ := id X
  exact W.iret hx hb (hr.trans hty) (fun t ht hW => ⟨⟨_, ws, rfl, hq, by rw [ht]; exact hP, hD⟩, hS.F ht⟩) hS.2.2 d hlk
theorem z_zret {Pr : Option Value → va_W → Prop} {v : Int32} {ty : FieldType} (hty : ret = some ty) (hnar : narrow ty (.int v) = .int v) (d : decode cc pc = .ok (.ireturn, 1)) (hq : Pr (some (.int v)) ws) : Z p l e R s m args below meth c (MQ below (zQ D J A Pr) args s cells slots A) cc nL Ts own D J A ret nm cells slots ws lv pc [.int v] := by
  intro H locs ls X hP hD hS hl
  obtain ⟨⟨hx, hb, hml, hown, hts⟩, ⟨hK, hG⟩, hA, hr, hlk, hnm, het, hHH, hst0⟩ := id X
  exact W.zret hx hb (hr.trans hty) hnar (fun t ht hW => ⟨⟨_, ws, rfl, hq, by rw [ht]; exact hP, hD⟩, hS.F ht⟩) hS.2.2 d hlk
theorem z_lret {Pr : Option Value → va_W → Prop} {v : Int64} (hty : ret = some .long) (d : decode cc pc = .ok (.lreturn, 1)) (hq : Pr (some (.long v)) ws) : Z p l e R s m args below meth c (MQ below (zQ D J A Pr) args s cells slots A) cc nL Ts own D J A ret nm cells slots ws lv pc [.long v] := by
  intro H locs ls X hP hD hS hl
  obtain ⟨⟨hx, hb, hml, hown, hts⟩, ⟨hK, hG⟩, hA, hr, hlk, hnm, het, hHH, hst0⟩ := id X
  exact W.lret hx hb (hr.trans hty) (fun t ht hW => ⟨⟨_, ws, rfl, hq, by rw [ht]; exact hP, hD⟩, hS.F ht⟩) hS.2.2 d hlk
theorem z_vret {Pr : Option Value → va_W → Prop} (hty : ret = none) (d : decode cc pc = .ok (.return_, 1)) (hq : Pr none ws) : Z p l e R s m args below meth c (MQ below (zQ D J A Pr) args s cells slots A) cc nL Ts own D J A ret nm cells slots ws lv pc [] := by
  intro H locs ls X hP hD hS hl
  obtain ⟨⟨hx, hb, hml, hown, hts⟩, ⟨hK, hG⟩, hA, hr, hlk, hnm, het, hHH, hst0⟩ := id X
  exact W.vret hx hb (hr.trans hty) (fun t ht hW => ⟨⟨_, ws, rfl, hq, by rw [ht]; exact hP, hD⟩, hS.F ht⟩) hS.2.2 d hlk
theorem z_perm (ws' : va_W) (lv' : List (Nat × Value)) (is ks : List Nat) (hn : va_nd is = true) (hs : is.map (fun i => ws[i]?) = ws'.map some) (hk : lv_pick lv ks = lv') (kk : Z p l e R s m args below meth c Q cc nL Ts own D J A ret nm cells slots ws' lv' pc st) : Z p l e R s m args below meth c Q cc nL Ts own D J A ret nm cells slots ws lv pc st := by
  intro H locs ls X hP hD hS hl
  exact kk H locs ls X (hP.sub is (z_fm hs)) (hD.sub is hn hs) hS (lv_sub hl ks hk)
theorem z_ws (ws' : va_W) (h : ws = ws') (kk : Z p l e R s m args below meth c Q cc nL Ts own D J A ret nm cells slots ws' lv pc st) : Z p l e R s m args below meth c Q cc nL Ts own D J A ret nm cells slots ws lv pc st := by rw [h]; exact kk
theorem z_widen (k n : Nat) (h1 : cells ≤ k) (h2 : slots ≤ n) (kk : Z p l e R s m args below meth c Q cc nL Ts own D J A ret nm k n ws lv pc st) : Z p l e R s m args below meth c Q cc nL Ts own D J A ret nm cells slots ws lv pc st := fun H locs ls X hP hD hS hl => W.widen h1 h2 (kk H locs ls X hP hD hS hl)
theorem z_min {index : Nat} {x y : Int} (d : decode cc pc = .ok (.invokestatic index, 3)) (h1 : Cond.methodLink own index Lib.Math.min.name ∈ Ts) (h2 : Cond.static Lib.Math.min.name ∈ Ts) (h3 : Cond.initialized "java/lang/Math" ∈ Ts) (h4 : Cond.code Lib.Math.min.name Lib.Math.min.code 2 (some .int) ∈ Ts) (hf : 1 ≤ R.frames) (hlo : (rest.map fun v => v.category).sum + 13 ≤ R.locals) (hc : cells ≤ R.cells) (hs : slots ≤ R.slots) (gx : -2147483648 ≤ x ∧ x ≤ 2147483647) (gy : -2147483648 ≤ y ∧ y ≤ 2147483647) (hpc : pc + 3 = pc') (kk : Z p l e R s m args below meth c Q cc nL Ts own D J A ret nm cells slots ws lv pc' (.int (zi (zmin x y)) :: rest)) : Z p l e R s m args below meth c Q cc nL Ts own D J A ret nm cells slots ws lv pc (.int (zi y) :: .int (zi x) :: rest) := by
  intro H locs ls X hP hD hS hl
  obtain ⟨⟨hx, hb, hml, hown, hts⟩, ⟨hK, hG⟩, hA, hr, hlk, hnm, het, hHH, hst0⟩ := id X
  subst hpc
  have kk := kk H locs ls X hP hD hS hl
  rw [show zi (zmin x y) = if zi y < zi x then zi y else zi x from zmin_e gx gy] at kk
  exact va_mmin hx hb (by rw [hml]; exact hl.1.symm) hown (hts _ h1) (hts _ h2) (hts _ h3) (hts _ h4) hf hlo hc hs d kk
theorem z_max {index : Nat} {x y : Int} (d : decode cc pc = .ok (.invokestatic index, 3)) (h1 : Cond.methodLink own index Lib.Math.max.name ∈ Ts) (h2 : Cond.static Lib.Math.max.name ∈ Ts) (h3 : Cond.initialized "java/lang/Math" ∈ Ts) (h4 : Cond.code Lib.Math.max.name Lib.Math.max.code 2 (some .int) ∈ Ts) (hf : 1 ≤ R.frames) (hlo : (rest.map fun v => v.category).sum + 13 ≤ R.locals) (hc : cells ≤ R.cells) (hs : slots ≤ R.slots) (gx : -2147483648 ≤ x ∧ x ≤ 2147483647) (gy : -2147483648 ≤ y ∧ y ≤ 2147483647) (hpc : pc + 3 = pc') (kk : Z p l e R s m args below meth c Q cc nL Ts own D J A ret nm cells slots ws lv pc' (.int (zi (zmax x y)) :: rest)) : Z p l e R s m args below meth c Q cc nL Ts own D J A ret nm cells slots ws lv pc (.int (zi y) :: .int (zi x) :: rest) := by
  intro H locs ls X hP hD hS hl
  obtain ⟨⟨hx, hb, hml, hown, hts⟩, ⟨hK, hG⟩, hA, hr, hlk, hnm, het, hHH, hst0⟩ := id X
  subst hpc
  have kk := kk H locs ls X hP hD hS hl
  rw [show zi (zmax x y) = if zi x < zi y then zi y else zi x from zmax_e gx gy] at kk
  exact va_mmax hx hb (by rw [hml]; exact hl.1.symm) hown (hts _ h1) (hts _ h2) (hts _ h3) (hts _ h4) hf hlo hc hs d kk
theorem z_abs {index : Nat} {x : Int} (d : decode cc pc = .ok (.invokestatic index, 3)) (h1 : Cond.methodLink own index Lib.Math.abs.name ∈ Ts) (h2 : Cond.static Lib.Math.abs.name ∈ Ts) (h3 : Cond.initialized "java/lang/Math" ∈ Ts) (h4 : Cond.code Lib.Math.abs.name Lib.Math.abs.code 1 (some .int) ∈ Ts) (hf : 1 ≤ R.frames) (hlo : (rest.map fun v => v.category).sum + 13 ≤ R.locals) (hc : cells ≤ R.cells) (hs : slots ≤ R.slots) (gx : -2147483648 ≤ x ∧ x ≤ 2147483647) (hpc : pc + 3 = pc') (kk : Z p l e R s m args below meth c Q cc nL Ts own D J A ret nm cells slots ws lv pc' (.int (zi (zabs x)) :: rest)) : Z p l e R s m args below meth c Q cc nL Ts own D J A ret nm cells slots ws lv pc (.int (zi x) :: rest) := by
  intro H locs ls X hP hD hS hl
  obtain ⟨⟨hx, hb, hml, hown, hts⟩, ⟨hK, hG⟩, hA, hr, hlk, hnm, het, hHH, hst0⟩ := id X
  subst hpc
  have kk := kk H locs ls X hP hD hS hl
  rw [show zi (zabs x) = if 0 ≤ zi x then zi x else 0 - zi x from zabs_e gx] at kk
  exact va_mabs hx hb (by rw [hml]; exact hl.1.symm) hown (hts _ h1) (hts _ h2) (hts _ h3) (hts _ h4) hf hlo hc hs d kk
theorem z_copyi {index a0 a1 n0 n1 : Nat} {f g : Nat → Int} {sp dp n : Int} (q0 q1 : Nat) (ws' : va_W) (d : decode cc pc = .ok (.invokestatic index, 3)) (h1 : Cond.methodLink own index arraycopyName ∈ Ts) (h2 : Cond.native arraycopyName ∈ Ts) (h3 : Cond.static arraycopyName ∈ Ts) (h4 : Cond.initialized "java/lang/System" ∈ Ts) (he0 : ws[q0]? = some (a0, zI J n0 f)) (he1 : ws[q1]? = some (a1, zI J n1 g)) (hn0 : n0 ≤ 2147483647) (hn1 : n1 ≤ 2147483647) (g1 : 0 ≤ sp) (g2 : 0 ≤ dp) (g3 : 0 ≤ n) (g4 : sp + n ≤ (n0 : Int)) (g5 : dp + n ≤ (n1 : Int)) (hf : 1 ≤ R.frames) (hlo : (rest.map fun v => v.category).sum + (nativeFrameWords "java/lang/System" "arraycopy" 5 + 11) ≤ R.locals) (hw : ws.set q1 (a1, zI J n1 (va_cpy f g sp.toNat dp.toNat n.toNat)) = ws') (hpc : pc + 3 = pc') (kk : Z p l e R s m args below meth c Q cc nL Ts own D J A ret nm cells slots ws' lv pc' rest) : Z p l e R s m args below meth c Q cc nL Ts own D J A ret nm cells slots ws lv pc (.int (zi n) :: .int (zi dp) :: .ref a1 :: .int (zi sp) :: .ref a0 :: rest) := by
  intro H locs ls X hP hD hS hl
  obtain ⟨⟨hx, hb, hml, hown, hts⟩, ⟨hK, hG⟩, hA, hr, hlk, hnm, het, hHH, hst0⟩ := id X
  subst hpc
  subst hw
  have e1 : (zi sp).toNatClampNeg = sp.toNat := Int32.toNatClampNeg_ofInt_of_le (by omega) (by omega)
  have e2 : (zi dp).toNatClampNeg = dp.toNat := Int32.toNatClampNeg_ofInt_of_le (by omega) (by omega)
  have e3 : (zi n).toNatClampNeg = n.toNat := Int32.toNatClampNeg_ofInt_of_le (by omega) (by omega)
  refine va_copyi hx hb (by rw [hml]; exact hl.1.symm) hown (hts _ h1) (hts _ h2) (hts _ h3) (hts _ h4) hK hP hD hS q0 q1 0 0 he0 he1 rfl rfl rfl (fun h => ?_) (fun h => ?_) (fun h => ?_) (by rw [e1, e3]; omega) (by rw [e2, e3]; omega) (fun _ _ => rfl) hf hlo d (fun H1 locs1 hP1 hD1 hS1 => ?_)
  · have := (zi_lt (x := sp) (y := 0) (by omega) zr0).mp h; omega
  · have := (zi_lt (x := dp) (y := 0) (by omega) zr0).mp h; omega
  · have := (zi_lt (x := n) (y := 0) (by omega) zr0).mp h; omega
  · rw [e1, e2, e3, zcpy_i] at hP1 hD1
    exact kk H1 locs1 ls X hP1 hD1 hS1 hl
theorem z_callV {y : MethodName} {wsy wsy' : List Cond} {rm : Room} {mc ms index maxL : Nat} {As : List Value} {wc wr : va_W} {Pr : Option Value → va_W → Prop} {bytes : ByteArray} {rety : Option FieldType} {N ci b : Nat} {C : String} {T : u_T} {fs : List Value} (n : Nat) (hM : ZM l D J y wsy rm mc ms (.ref b :: As) wc Pr) (d : decode cc pc = .ok (.invokevirtual index, 3)) (hT : GoodIn Ts (wsV own index C y wsy)) (hw : wsy = Cond.code y bytes maxL rety :: wsy') (hrc : rm.cells = mc) (hrs : rm.slots = ms)
    (hd : y.cls = C ∧ y.cls ≠ "java/lang/invoke/MethodHandle" ∧ y.cls ≠ "java/lang/invoke/VarHandle" ∧ (parseMethodDescriptor y.desc).map (fun d => d.parameters.length) = some n) (hR : rm.frames + 1 ≤ R.frames ∧ 8 + (maxL + 11) + rm.locals ≤ R.locals) (hf : cells + mc ≤ R.cells ∧ slots + ms ≤ R.slots)
    (hspl : z_spl ws wc wr) (h0 : wc[0]? = some (b, .inr (ci, fs))) (hci : vwCl[ci]? = some (C, T, N)) (hst : st = As.reverse ++ .ref b :: rest) (hn : As.length = n) (hcat : (rest.map fun v => v.category).sum ≤ 8) (hpc : pc + 3 = pc')
    (kk : ∀ (rv : Option Value) (w' : va_W), Pr rv w' → Z p l e R s m args below meth c Q cc nL Ts own D J A ret nm (cells + mc) (slots + ms) (wr ++ w') lv pc' (rv.toList ++ rest)) : Z p l e R s m args below meth c Q cc nL Ts own D J A ret nm cells slots ws lv pc st := by
  intro H locs ls X hP hD hS hl
  obtain ⟨⟨hx, hb, hml, hown, hts⟩, ⟨hK, hG⟩, hA, hr, hlk, hnm, het, hHH, hst0⟩ := id X
  subst hpc
  have hPc := (hspl.P hP).1
  have hDc := (z_D_app (hspl.D hD)).1
  have hF := z_free hspl hD hS hA
  refine z_call0 (va_runV (As := As) (rest := rest) ⟨hx, hb, hml, hown, hts⟩ (hM hst0 H.size) (cwV n hts hT hw hrc hrs hd hR) ⟨z_blind, va_recv hK hPc hci h0, fun U hU hW => ⟨rfl, by rw [hU], by rw [hU]; exact hPc, zG.warm hW ⟨hK, hG⟩, hDc.weaken (fun _ _ _ _ => trivial), by rw [hU]; exact hHH.step hS hF hW.alike⟩⟩ rfl hn hl.1 hst (by simpa using hcat) d hf) hS (fun q _ h => hF q h) hF (fun rv w' t H1 locs1 ht hvm hp hP1 hD1 hz hk hS1 => ?_)
  obtain ⟨hP2, hD2⟩ := z_join hspl hP hD hk hF hP1 hD1
  exact kk rv w' hp H1 locs1 ls X hP2 hD2 hS1 hl
theorem z_callS {y : MethodName} {wsy wsy' : List Cond} {rm : Room} {mc ms index maxL : Nat} {As : List Value} {wc wr : va_W} {Pr : Option Value → va_W → Prop} {bytes : ByteArray} {rety : Option FieldType} (n : Nat) (hM : ZM l D J y wsy rm mc ms As wc Pr) (d : decode cc pc = .ok (.invokestatic index, 3)) (hT : GoodIn Ts (va_wsS own index y wsy)) (hw : wsy = Cond.code y bytes maxL rety :: wsy') (hrc : rm.cells = mc) (hrs : rm.slots = ms)
    (hd : y.cls ≠ "java/lang/invoke/MethodHandle" ∧ y.cls ≠ "java/lang/invoke/VarHandle" ∧ (parseMethodDescriptor y.desc).map (fun d => d.parameters.length) = some n) (hR : rm.frames + 1 ≤ R.frames ∧ 8 + (maxL + 11) + rm.locals ≤ R.locals) (hf : cells + mc ≤ R.cells ∧ slots + ms ≤ R.slots)
    (hspl : z_spl ws wc wr) (hst : st = As.reverse ++ rest) (hn : As.length = n) (hcat : (rest.map fun v => v.category).sum ≤ 8) (hpc : pc + 3 = pc')
    (kk : ∀ (rv : Option Value) (w' : va_W), Pr rv w' → Z p l e R s m args below meth c Q cc nL Ts own D J A ret nm (cells + mc) (slots + ms) (wr ++ w') lv pc' (rv.toList ++ rest)) : Z p l e R s m args below meth c Q cc nL Ts own D J A ret nm cells slots ws lv pc st := by
  intro H locs ls X hP hD hS hl
  obtain ⟨⟨hx, hb, hml, hown, hts⟩, ⟨hK, hG⟩, hA, hr, hlk, hnm, het, hHH, hst0⟩ := id X
  subst hpc
  have hPc := (hspl.P hP).1
  have hDc := (z_D_app (hspl.D hD)).1
  have hF := z_free hspl hD hS hA
  refine z_call0 (va_runS (As := As) (rest := rest) ⟨hx, hb, hml, hown, hts⟩ (hM hst0 H.size) (va_cwS n hts hT hw hrc hrs hd hR) ⟨z_blind, fun U hU hW => ⟨rfl, by rw [hU], by rw [hU]; exact hPc, zG.warm hW ⟨hK, hG⟩, hDc.weaken (fun _ _ _ _ => trivial), by rw [hU]; exact hHH.step hS hF hW.alike⟩⟩ rfl hn hl.1 hst (by simpa using hcat) d hf) hS (fun q _ h => hF q h) hF (fun rv w' t H1 locs1 ht hvm hp hP1 hD1 hz hk hS1 => ?_)
  obtain ⟨hP2, hD2⟩ := z_join hspl hP hD hk hF hP1 hD1
  exact kk rv w' hp H1 locs1 ls X hP2 hD2 hS1 hl
def Zt (p : Program) (l : Launch) (e : Env) (R : Room) (s : State) (m : MethodId) (args : Array Value) (below : List Frame) (meth : Method) (c : Code) (Q : State → Prop) (cc : ByteArray) (nL : Nat) (Ts : List Cond) (own : String) (D : va_G) (J : Nat → ClassId) (A : Nat → Prop) (ret : Option FieldType) (nm : String × List ExceptionTableEntry) (cells slots : Nat) (ws : va_W) (lv : List (Nat × Value)) (pc : Nat) (st : List Value) (E : String) : Prop :=
  ∀ (H : Heap) (locs : List Loc) (ls : Array Slot) (q : Nat) (ce : Cell), Zx p l s m args meth c cc nL Ts own D J A ret nm → va_P D vwCl ws H → va_D A ws → va_S A s.heap H locs → lv_has ls nL lv → H[q]? = some ce → ce.vm = .none → s.vm.findClass E = some ce.cls → vx_W p l e R s m args below meth c H locs cells slots Q (F0 m pc ls st) q
theorem z_callVx {y : MethodName} {wsy wsy' : List Cond} {rm : Room} {mc ms index maxL : Nat} {As : List Value} {wc wr : va_W} {Pr : Option Value → va_W → Prop} {bytes : ByteArray} {rety : Option FieldType} {N ci b : Nat} {C : String} {T : u_T} {fs : List Value} {Px : String → va_W → Prop} (n : Nat) (hM : ZMx l D J y wsy rm mc ms (.ref b :: As) wc Pr Px) (d : decode cc pc = .ok (.invokevirtual index, 3)) (hT : GoodIn Ts (wsV own index C y wsy)) (hw : wsy = Cond.code y bytes maxL rety :: wsy') (hrc : rm.cells = mc) (hrs : rm.slots = ms)
    (hd : y.cls = C ∧ y.cls ≠ "java/lang/invoke/MethodHandle" ∧ y.cls ≠ "java/lang/invoke/VarHandle" ∧ (parseMethodDescriptor y.desc).map (fun d => d.parameters.length) = some n) (hR : rm.frames + 1 ≤ R.frames ∧ 8 + (maxL + 11) + rm.locals ≤ R.locals) (hf : cells + mc ≤ R.cells ∧ slots + ms ≤ R.slots)
    (hspl : z_spl ws wc wr) (h0 : wc[0]? = some (b, .inr (ci, fs))) (hci : vwCl[ci]? = some (C, T, N)) (hst : st = As.reverse ++ .ref b :: rest) (hn : As.length = n) (hcat : (rest.map fun v => v.category).sum ≤ 8) (hpc : pc + 3 = pc')
    (kx : ∀ (E : String) (w' : va_W), Px E w' → Zt p l e R s m args below meth c Q cc nL Ts own D J A ret nm (cells + mc) (slots + ms) (wr ++ w') lv pc rest E)
    (kk : ∀ (rv : Option Value) (w' : va_W), Pr rv w' → Z p l e R s m args below meth c Q cc nL Ts own D J A ret nm (cells + mc) (slots + ms) (wr ++ w') lv pc' (rv.toList ++ rest)) : Z p l e R s m args below meth c Q cc nL Ts own D J A ret nm cells slots ws lv pc st := by
  intro H locs ls X hP hD hS hl
  obtain ⟨⟨hx, hb, hml, hown, hts⟩, ⟨hK, hG⟩, hA, hr, hlk, hnm, het, hHH, hst0⟩ := id X
  subst hpc
  have hPc := (hspl.P hP).1
  have hDc := (z_D_app (hspl.D hD)).1
  have hF := z_free hspl hD hS hA
  refine z_callx0 (vx_runV (As := As) (rest := rest) ⟨hx, hb, hml, hown, hts⟩ (hM hst0 H.size) (cwV n hts hT hw hrc hrs hd hR) ⟨z_blind, va_recv hK hPc hci h0, fun U hU hW => ⟨rfl, by rw [hU], by rw [hU]; exact hPc, zG.warm hW ⟨hK, hG⟩, hDc.weaken (fun _ _ _ _ => trivial), by rw [hU]; exact hHH.step hS hF hW.alike⟩⟩ rfl hn hl.1 hst (by simpa using hcat) d hf) hS (fun q _ h => hF q h) hF (fun E ce q9 w' t H1 locs1 ht hvm hp hP1 hD1 hz hk hS1 h1 h2 h3 => ?_) (fun rv w' t H1 locs1 ht hvm hp hP1 hD1 hz hk hS1 => ?_)
  · obtain ⟨hP2, hD2⟩ := z_join hspl hP hD hk hF hP1 hD1
    exact kx E w' hp H1 locs1 ls q9 ce X hP2 hD2 hS1 hl h1 h2 h3
  · obtain ⟨hP2, hD2⟩ := z_join hspl hP hD hk hF hP1 hD1
    exact kk rv w' hp H1 locs1 ls X hP2 hD2 hS1 hl
theorem z_callSx {y : MethodName} {wsy wsy' : List Cond} {rm : Room} {mc ms index maxL : Nat} {As : List Value} {wc wr : va_W} {Pr : Option Value → va_W → Prop} {bytes : ByteArray} {rety : Option FieldType} {Px : String → va_W → Prop} (n : Nat) (hM : ZMx l D J y wsy rm mc ms As wc Pr Px) (d : decode cc pc = .ok (.invokestatic index, 3)) (hT : GoodIn Ts (va_wsS own index y wsy)) (hw : wsy = Cond.code y bytes maxL rety :: wsy') (hrc : rm.cells = mc) (hrs : rm.slots = ms)
    (hd : y.cls ≠ "java/lang/invoke/MethodHandle" ∧ y.cls ≠ "java/lang/invoke/VarHandle" ∧ (parseMethodDescriptor y.desc).map (fun d => d.parameters.length) = some n) (hR : rm.frames + 1 ≤ R.frames ∧ 8 + (maxL + 11) + rm.locals ≤ R.locals) (hf : cells + mc ≤ R.cells ∧ slots + ms ≤ R.slots)
    (hspl : z_spl ws wc wr) (hst : st = As.reverse ++ rest) (hn : As.length = n) (hcat : (rest.map fun v => v.category).sum ≤ 8) (hpc : pc + 3 = pc')
    (kx : ∀ (E : String) (w' : va_W), Px E w' → Zt p l e R s m args below meth c Q cc nL Ts own D J A ret nm (cells + mc) (slots + ms) (wr ++ w') lv pc rest E)
    (kk : ∀ (rv : Option Value) (w' : va_W), Pr rv w' → Z p l e R s m args below meth c Q cc nL Ts own D J A ret nm (cells + mc) (slots + ms) (wr ++ w') lv pc' (rv.toList ++ rest)) : Z p l e R s m args below meth c Q cc nL Ts own D J A ret nm cells slots ws lv pc st := by
  intro H locs ls X hP hD hS hl
  obtain ⟨⟨hx, hb, hml, hown, hts⟩, ⟨hK, hG⟩, hA, hr, hlk, hnm, het, hHH, hst0⟩ := id X
  subst hpc
  have hPc := (hspl.P hP).1
  have hDc := (z_D_app (hspl.D hD)).1
  have hF := z_free hspl hD hS hA
  refine z_callx0 (vx_runS (As := As) (rest := rest) ⟨hx, hb, hml, hown, hts⟩ (hM hst0 H.size) (va_cwS n hts hT hw hrc hrs hd hR) ⟨z_blind, fun U hU hW => ⟨rfl, by rw [hU], by rw [hU]; exact hPc, zG.warm hW ⟨hK, hG⟩, hDc.weaken (fun _ _ _ _ => trivial), by rw [hU]; exact hHH.step hS hF hW.alike⟩⟩ rfl hn hl.1 hst (by simpa using hcat) d hf) hS (fun q _ h => hF q h) hF (fun E ce q9 w' t H1 locs1 ht hvm hp hP1 hD1 hz hk hS1 h1 h2 h3 => ?_) (fun rv w' t H1 locs1 ht hvm hp hP1 hD1 hz hk hS1 => ?_)
  · obtain ⟨hP2, hD2⟩ := z_join hspl hP hD hk hF hP1 hD1
    exact kx E w' hp H1 locs1 ls q9 ce X hP2 hD2 hS1 hl h1 h2 h3
  · obtain ⟨hP2, hD2⟩ := z_join hspl hP hD hk hF hP1 hD1
    exact kk rv w' hp H1 locs1 ls X hP2 hD2 hS1 hl
theorem z_callSw {y : MethodName} {wsy wsy' : List Cond} {rm : Room} {mc ms index maxL : Nat} {As : List Value} {wc wr : va_W} {Pr : Option Value → va_W → Prop} {bytes : ByteArray} {rety : Option FieldType} {Px : String → va_W → Prop} {hh : List (Nat × Nat × Nat × Nat)} (n : Nat) (hM : ZMx l D J y wsy rm mc ms As wc Pr Px) (d : decode cc pc = .ok (.invokestatic index, 3)) (hT : GoodIn Ts (va_wsS own index y wsy)) (hw : wsy = Cond.codeWith y bytes maxL rety hh :: wsy') (hrc : rm.cells = mc) (hrs : rm.slots = ms)
    (hd : y.cls ≠ "java/lang/invoke/MethodHandle" ∧ y.cls ≠ "java/lang/invoke/VarHandle" ∧ (parseMethodDescriptor y.desc).map (fun d => d.parameters.length) = some n) (hR : rm.frames + 1 ≤ R.frames ∧ 8 + (maxL + 11) + rm.locals ≤ R.locals) (hf : cells + mc ≤ R.cells ∧ slots + ms ≤ R.slots)
    (hspl : z_spl ws wc wr) (hst : st = As.reverse ++ rest) (hn : As.length = n) (hcat : (rest.map fun v => v.category).sum ≤ 8) (hpc : pc + 3 = pc')
    (kx : ∀ (E : String) (w' : va_W), Px E w' → Zt p l e R s m args below meth c Q cc nL Ts own D J A ret nm (cells + mc) (slots + ms) (wr ++ w') lv pc rest E)
    (kk : ∀ (rv : Option Value) (w' : va_W), Pr rv w' → Z p l e R s m args below meth c Q cc nL Ts own D J A ret nm (cells + mc) (slots + ms) (wr ++ w') lv pc' (rv.toList ++ rest)) : Z p l e R s m args below meth c Q cc nL Ts own D J A ret nm cells slots ws lv pc st := by
  intro H locs ls X hP hD hS hl
  obtain ⟨⟨hx, hb, hml, hown, hts⟩, ⟨hK, hG⟩, hA, hr, hlk, hnm, het, hHH, hst0⟩ := id X
  subst hpc
  have hPc := (hspl.P hP).1
  have hDc := (z_D_app (hspl.D hD)).1
  have hF := z_free hspl hD hS hA
  refine z_callx0 (vx_runSX (hh := hh) (As := As) (rest := rest) ⟨hx, hb, hml, hown, hts⟩ (hM hst0 H.size) (vx_cwSW n hts hT hw hrc hrs hd hR) ⟨z_blind, fun U hU hW => ⟨rfl, by rw [hU], by rw [hU]; exact hPc, zG.warm hW ⟨hK, hG⟩, hDc.weaken (fun _ _ _ _ => trivial), by rw [hU]; exact hHH.step hS hF hW.alike⟩⟩ rfl hn hl.1 hst (by simpa using hcat) d hf) hS (fun q _ h => hF q h) hF (fun E ce q9 w' t H1 locs1 ht hvm hp hP1 hD1 hz hk hS1 h1 h2 h3 => ?_) (fun rv w' t H1 locs1 ht hvm hp hP1 hD1 hz hk hS1 => ?_)
  · obtain ⟨hP2, hD2⟩ := z_join hspl hP hD hk hF hP1 hD1
    exact kx E w' hp H1 locs1 ls q9 ce X hP2 hD2 hS1 hl h1 h2 h3
  · obtain ⟨hP2, hD2⟩ := z_join hspl hP hD hk hF hP1 hD1
    exact kk rv w' hp H1 locs1 ls X hP2 hD2 hS1 hl
theorem z_out {mc ms : Nat} {Pr : Option Value → va_W → Prop} {Px : String → va_W → Prop} {E : String} (hnm2 : nm.2 = []) (hq : Px E ws) (hc : cells ≤ mc) (hs : slots ≤ ms) : Zt p l e R s m args below meth c (vx_MQ below (zQ D J A Pr) (zX D A Px) args s mc ms A) cc nL Ts own D J A ret nm cells slots ws lv pc st E := by
  intro H locs ls q ce X hP hD hS hl h1 h2 h3
  obtain ⟨⟨hx, hb, hml, hown, hts⟩, ⟨hK, hG⟩, hA, hr, hlk, hnm, het, hHH, hst0⟩ := id X
  exact vx_out (by rw [het, hnm2]; exact fun _ h => nomatch h) hlk h1 h2 h3 (fun t ht hW => ⟨⟨ws, hq, by rw [ht]; exact hP, hD⟩, hS.F ht⟩) hS.2.2 hc hs
theorem z_catch {name E : String} (pre : List ExceptionTableEntry) (x : ExceptionTableEntry) (suf : List ExceptionTableEntry) (hsplit : nm.2 = pre ++ x :: suf) (hpass : ∀ z ∈ pre, covers z pc = false ∨ (z.catchType ≠ 0 ∧ ∃ n : String, Cond.classLink own z.catchType n ∈ Ts ∧ n ∈ zEx ∧ E ≠ n)) (hxc : covers x pc = true) (h0 : x.catchType ≠ 0) (hlf : Cond.classLink own x.catchType name ∈ Ts) (hE : E = name) (hEx : E ∈ zEx)
    (kk : ∀ q : Nat, Z p l e R s m args below meth c Q cc nL Ts own D J A ret nm cells slots ws lv x.handlerPc [.ref q]) : Zt p l e R s m args below meth c Q cc nL Ts own D J A ret nm cells slots ws lv pc st E := by
  intro H locs ls q ce X hP hD hS hl h1 h2 h3
  obtain ⟨⟨hx, hb, hml, hown, hts⟩, ⟨hK, hG⟩, hA, hr, hlk, hnm, het, hHH, hst0⟩ := id X
  subst hE
  refine vx_catch hown pre x suf (by rw [het, hsplit]) (fun z hz => ?_) hxc h0 (hts _ hlf) ((hG.2.2.1 E hEx).use rfl) h1 h2 h3 (kk q H locs ls X hP hD hS hl)
  rcases hpass z hz with h | ⟨hz0, n, hn1, hn2, hn3⟩
  · exact Or.inl h
  · exact Or.inr ⟨hz0, n, hts _ hn1, hG.2.2.2.1 E hEx n hn2 hn3⟩
theorem z_throw {mc ms : Nat} {Pr : Option Value → va_W → Prop} {Px : String → va_W → Prop} {ik is ic : Nat} {text cls : String} (hnm2 : nm.2 = []) (hcls : cls ∈ zEx) (htx : (is, text) ∈ zStr) (hk : Cond.classLink own ik cls ∈ Ts) (hini : Cond.initialized cls ∈ Ts) (how : own = RX8) (hat : ∀ w ∈ (vx_atS RX8 ic cls ["java/lang/RuntimeException", "java/lang/Exception"]).filter goodWord, w ∈ Ts) (hng : (vx_atS RX8 ic cls ["java/lang/RuntimeException", "java/lang/Exception"]).filter (fun w => !goodWord w) = zNg cls)
    (hgood : ((Cond.classLink RX8 ik cls :: Cond.initialized cls :: vx_atS RX8 ic cls ["java/lang/RuntimeException", "java/lang/Exception"]).all vx_ot) = true) (hfit : Bundle.fit cls = true)
    (d0 : decode cc pc = .ok (.new ik, 3)) (d3 : decode cc (pc + 3) = .ok (.dup, 1)) (d4 : decode cc (pc + 4) = .ok (.ldc is, 2)) (d6 : decode cc (pc + 6) = .ok (.invokespecial ic, 3)) (d9 : decode cc (pc + 9) = .ok (.athrow, 1))
    (hRf : 5 < R.frames) (hRl : (rest.map fun v => v.category).sum + 82 ≤ R.locals) (hRc : cells + 1 ≤ R.cells) (hRs : slots + 6 ≤ R.slots) (hc : cells + 1 ≤ mc) (hs : slots + 6 ≤ ms) (hq : Px cls ws) : Z p l e R s m args below meth c (vx_MQ below (zQ D J A Pr) (zX D A Px) args s mc ms A) cc nL Ts own D J A ret nm cells slots ws lv pc rest := by
  intro H locs ls X hP hD hS hl
  obtain ⟨⟨hx, hb, hml, hown, hts⟩, ⟨hK, hG⟩, hA, hr, hlk, hnm, het, hHH, hst0⟩ := id X
  subst how
  obtain ⟨sa, hsa⟩ := hG.2.1 _ htx
  refine vx_throwS (names := ["java/lang/RuntimeException", "java/lang/Exception"]) (A := A) hx hb hst0 hown hfit (by decide) (hts _ hk) (hts _ hini) hsa (vx_hat (B := zNg cls) (fun w h => hts w (hat w h)) (fun w h => by rw [hng] at h; exact h) (fun w h => ?_)) (List.all_eq_true.mp hgood) hHH.1 hHH.2.1 hS (by rw [hml]; exact hl.1) d0 d3 d4 d6 d9 (by rw [het, hnm2]; exact fun _ h => nomatch h) hRf hRl hRc hRs hlk (fun t hvm hz hk1 => ?_) hS.2.2 hc hs
  · rcases List.mem_append.mp h with h | h
    · obtain ⟨x, hx1, rfl⟩ := List.mem_map.mp h
      exact (hG.2.2.2.2.1 x hx1).use rfl
    · rw [List.mem_singleton.mp h]
      exact (hG.2.2.1 cls hcls).use rfl
  refine ⟨⟨ws, hq, hP.kept (fun k q hk2 => hk1 q.1 (hP k q hk2).lt), hD⟩, Nat.le_trans hS.1 hz, fun q h1 h2 => ?_⟩
  rw [hk1 q (Nat.lt_of_lt_of_le h1 hS.1)]
  exact hS.2.1 q h1 h2
theorem z_throwW {mc ms : Nat} {Pr : Option Value → va_W → Prop} {Px : String → va_W → Prop} {ik is ic : Nat} {text cls : String} (hnm2 : nm.2 = []) (hcls : cls ∈ zEx) (htx : (is, text) ∈ zStr) (hk : Cond.classLink own ik cls ∈ Ts) (hini : Cond.initialized cls ∈ Ts) (how : own = RX8) (hat : ∀ w ∈ (vx_atS RX8 ic cls ["java/lang/RuntimeException", "java/lang/Exception"]).filter goodWord, w ∈ Ts) (hng : (vx_atS RX8 ic cls ["java/lang/RuntimeException", "java/lang/Exception"]).filter (fun w => !goodWord w) = zNg cls)
    (hgood : ((Cond.classLink RX8 ik cls :: Cond.initialized cls :: vx_atS RX8 ic cls ["java/lang/RuntimeException", "java/lang/Exception"]).all vx_ot) = true) (hfit : Bundle.fit cls = true)
    (d0 : decode cc pc = .ok (.new ik, 3)) (d3 : decode cc (pc + 3) = .ok (.dup, 1)) (d4 : decode cc (pc + 4) = .ok (.ldc_w is, 3)) (d6 : decode cc (pc + 7) = .ok (.invokespecial ic, 3)) (d9 : decode cc (pc + 10) = .ok (.athrow, 1))
    (hRf : 5 < R.frames) (hRl : (rest.map fun v => v.category).sum + 82 ≤ R.locals) (hRc : cells + 1 ≤ R.cells) (hRs : slots + 6 ≤ R.slots) (hc : cells + 1 ≤ mc) (hs : slots + 6 ≤ ms) (hq : Px cls ws) : Z p l e R s m args below meth c (vx_MQ below (zQ D J A Pr) (zX D A Px) args s mc ms A) cc nL Ts own D J A ret nm cells slots ws lv pc rest := by
  intro H locs ls X hP hD hS hl
  obtain ⟨⟨hx, hb, hml, hown, hts⟩, ⟨hK, hG⟩, hA, hr, hlk, hnm, het, hHH, hst0⟩ := id X
  subst how
  obtain ⟨sa, hsa⟩ := hG.2.1 _ htx
  refine vx_throwSW (names := ["java/lang/RuntimeException", "java/lang/Exception"]) (A := A) hx hb hst0 hown hfit (by decide) (hts _ hk) (hts _ hini) hsa (vx_hat (B := zNg cls) (fun w h => hts w (hat w h)) (fun w h => by rw [hng] at h; exact h) (fun w h => ?_)) (List.all_eq_true.mp hgood) hHH.1 hHH.2.1 hS (by rw [hml]; exact hl.1) d0 d3 d4 d6 d9 (by rw [het, hnm2]; exact fun _ h => nomatch h) hRf hRl hRc hRs hlk (fun t hvm hz hk1 => ?_) hS.2.2 hc hs
  · rcases List.mem_append.mp h with h | h
    · obtain ⟨x, hx1, rfl⟩ := List.mem_map.mp h
      exact (hG.2.2.2.2.1 x hx1).use rfl
    · rw [List.mem_singleton.mp h]
      exact (hG.2.2.1 cls hcls).use rfl
  refine ⟨⟨ws, hq, hP.kept (fun k q hk2 => hk1 q.1 (hP k q hk2).lt), hD⟩, Nat.le_trans hS.1 hz, fun q h1 h2 => ?_⟩
  rw [hk1 q (Nat.lt_of_lt_of_le h1 hS.1)]
  exact hS.2.1 q h1 h2
theorem z_iretx {Pr : Option Value → va_W → Prop} {Px : String → va_W → Prop} {v : Int32} (hty : ret = some .int) (d : decode cc pc = .ok (.ireturn, 1)) (hq : Pr (some (.int v)) ws) : Z p l e R s m args below meth c (vx_MQ below (zQ D J A Pr) (zX D A Px) args s cells slots A) cc nL Ts own D J A ret nm cells slots ws lv pc [.int v] := fun H locs ls X hP hD hS hl => vx_ret (z_iret hty d hq H locs ls X hP hD hS hl)
theorem z_zretx {Pr : Option Value → va_W → Prop} {Px : String → va_W → Prop} {v : Int32} {ty : FieldType} (hty : ret = some ty) (hnar : narrow ty (.int v) = .int v) (d : decode cc pc = .ok (.ireturn, 1)) (hq : Pr (some (.int v)) ws) : Z p l e R s m args below meth c (vx_MQ below (zQ D J A Pr) (zX D A Px) args s cells slots A) cc nL Ts own D J A ret nm cells slots ws lv pc [.int v] := fun H locs ls X hP hD hS hl => vx_ret (z_zret hty hnar d hq H locs ls X hP hD hS hl)
theorem z_vretx {Pr : Option Value → va_W → Prop} {Px : String → va_W → Prop} (hty : ret = none) (d : decode cc pc = .ok (.return_, 1)) (hq : Pr none ws) : Z p l e R s m args below meth c (vx_MQ below (zQ D J A Pr) (zX D A Px) args s cells slots A) cc nL Ts own D J A ret nm cells slots ws lv pc [] := fun H locs ls X hP hD hS hl => vx_ret (z_vret hty d hq H locs ls X hP hD hS hl)
theorem z_objInit {a idx : Nat} (d : decode cc pc = .ok (.invokespecial idx, 3)) (h1 : Cond.methodLink own idx objectInit ∈ Ts) (h2 : Cond.instanceMethod objectInit ∈ Ts) (h3 : Cond.code objectInit ⟨#[0xb1]⟩ 1 none ∈ Ts) (hf : 1 ≤ R.frames) (hlo : (rest.map fun v => v.category).sum + 12 ≤ R.locals) (hpc : pc + 3 = pc') (kk : Z p l e R s m args below meth c Q cc nL Ts own D J A ret nm cells slots ws lv pc' rest) : Z p l e R s m args below meth c Q cc nL Ts own D J A ret nm cells slots ws lv pc (.ref a :: rest) := by
  intro H locs ls X hP hD hS hl
  obtain ⟨⟨hx, hb, hml, hown, hts⟩, ⟨hK, hG⟩, hA, hr, hlk, hnm, het, hHH, hst0⟩ := id X
  subst hpc
  refine W.objInit hx hb hown (hts _ h1) (hts _ h2) (hts _ h3) rfl (by rw [hml]; exact hl.1) rfl d hf (by simpa using hlo) ?_
  exact kk H locs ls X hP hD hS hl
theorem z_newarr_int {n : Int} (N k2 n2 : Nat) (d : decode cc pc = .ok (.newarray .int, 2)) (h1 : Cond.arrayClass .int ∈ Ts) (hn : n = (N : Int)) (hN : N ≤ 100000) (hk2 : cells + 1 = k2) (hn2 : slots + N = n2) (hc : k2 ≤ R.cells) (hs : n2 ≤ R.slots) (hpc : pc + 2 = pc') (kk : ∀ a : Nat, Z p l e R s m args below meth c Q cc nL Ts own D J A ret nm k2 n2 (ws ++ [(a, zI J N (fun _ => 0))]) lv pc' (.ref a :: rest)) : Z p l e R s m args below meth c Q cc nL Ts own D J A ret nm cells slots ws lv pc (.int (zi n) :: rest) := by
  intro H locs ls X hP hD hS hl
  obtain ⟨⟨hx, hb, hml, hown, hts⟩, ⟨hK, hG⟩, hA, hr, hlk, hnm, het, hHH, hst0⟩ := id X
  subst hpc
  subst hk2
  subst hn2
  subst hn
  have hlt : ¬ zi (N : Int) < 0 := fun h => by have := (zi_lt (x := (N : Int)) (y := 0) (by omega) zr0).mp h; omega
  have hby : N * componentBytes .int ≤ 536870912 := Nat.le_trans (Nat.mul_le_mul hN (show componentBytes .int ≤ 8 by decide)) (by decide)
  refine va_newa (atype := .int) (ty := .int) (N' := N) (a0 := (N, .inl (fun _ => zi 0))) hx hb (hts _ h1) rfl hK hP hD hS hA (fun cA => ?_) hlt (by rw [zi_cl (n := N + 1) (by omega) (by omega)]; omega) hby hc hs d (fun q cA H1 hK1 hP1 hD1 hS1 => ?_)
  · first | rfl | (rw [vp_cell_i]; rfl) | (show vp_cell cA _ = _; unfold vp_cell; rfl)
  · have e1 := (hK1.2 5 _ rfl).2
    have e2 := (hK.2 0 _ rfl).2
    have he : cA = J 0 := Option.some.inj (e1.symm.trans e2)
    subst he
    exact kk q H1 locs ls X hP1 hD1 hS1 hl
theorem z_newarr_char {n : Int} (N k2 n2 : Nat) (d : decode cc pc = .ok (.newarray .char, 2)) (h1 : Cond.arrayClass .char ∈ Ts) (hn : n = (N : Int)) (hN : N ≤ 100000) (hk2 : cells + 1 = k2) (hn2 : slots + N = n2) (hc : k2 ≤ R.cells) (hs : n2 ≤ R.slots) (hpc : pc + 2 = pc') (kk : ∀ a : Nat, Z p l e R s m args below meth c Q cc nL Ts own D J A ret nm k2 n2 (ws ++ [(a, zC J N (fun _ => 0))]) lv pc' (.ref a :: rest)) : Z p l e R s m args below meth c Q cc nL Ts own D J A ret nm cells slots ws lv pc (.int (zi n) :: rest) := by
  intro H locs ls X hP hD hS hl
  obtain ⟨⟨hx, hb, hml, hown, hts⟩, ⟨hK, hG⟩, hA, hr, hlk, hnm, het, hHH, hst0⟩ := id X
  subst hpc
  subst hk2
  subst hn2
  subst hn
  have hlt : ¬ zi (N : Int) < 0 := fun h => by have := (zi_lt (x := (N : Int)) (y := 0) (by omega) zr0).mp h; omega
  have hby : N * componentBytes .char ≤ 536870912 := Nat.le_trans (Nat.mul_le_mul hN (show componentBytes .char ≤ 8 by decide)) (by decide)
  refine va_newa (atype := .char) (ty := .char) (N' := N) (a0 := (N, .inl (fun _ => zi 0))) hx hb (hts _ h1) rfl hK hP hD hS hA (fun cA => ?_) hlt (by rw [zi_cl (n := N + 1) (by omega) (by omega)]; omega) hby hc hs d (fun q cA H1 hK1 hP1 hD1 hS1 => ?_)
  · first | rfl | (rw [vp_cell_i]; rfl) | (show vp_cell cA _ = _; unfold vp_cell; rfl)
  · have e1 := (hK1.2 5 _ rfl).2
    have e2 := (hK.2 1 _ rfl).2
    have he : cA = J 1 := Option.some.inj (e1.symm.trans e2)
    subst he
    exact kk q H1 locs ls X hP1 hD1 hS1 hl
theorem z_newarr_boolean {n : Int} (N k2 n2 : Nat) (d : decode cc pc = .ok (.newarray .boolean, 2)) (h1 : Cond.arrayClass .boolean ∈ Ts) (hn : n = (N : Int)) (hN : N ≤ 100000) (hk2 : cells + 1 = k2) (hn2 : slots + N = n2) (hc : k2 ≤ R.cells) (hs : n2 ≤ R.slots) (hpc : pc + 2 = pc') (kk : ∀ a : Nat, Z p l e R s m args below meth c Q cc nL Ts own D J A ret nm k2 n2 (ws ++ [(a, zB J N (fun _ => 0))]) lv pc' (.ref a :: rest)) : Z p l e R s m args below meth c Q cc nL Ts own D J A ret nm cells slots ws lv pc (.int (zi n) :: rest) := by
  intro H locs ls X hP hD hS hl
  obtain ⟨⟨hx, hb, hml, hown, hts⟩, ⟨hK, hG⟩, hA, hr, hlk, hnm, het, hHH, hst0⟩ := id X
  subst hpc
  subst hk2
  subst hn2
  subst hn
  have hlt : ¬ zi (N : Int) < 0 := fun h => by have := (zi_lt (x := (N : Int)) (y := 0) (by omega) zr0).mp h; omega
  have hby : N * componentBytes .boolean ≤ 536870912 := Nat.le_trans (Nat.mul_le_mul hN (show componentBytes .boolean ≤ 8 by decide)) (by decide)
  refine va_newa (atype := .boolean) (ty := .boolean) (N' := N) (a0 := (N, .inl (fun _ => zi 0))) hx hb (hts _ h1) rfl hK hP hD hS hA (fun cA => ?_) hlt (by rw [zi_cl (n := N + 1) (by omega) (by omega)]; omega) hby hc hs d (fun q cA H1 hK1 hP1 hD1 hS1 => ?_)
  · first | rfl | (rw [vp_cell_i]; rfl) | (show vp_cell cA _ = _; unfold vp_cell; rfl)
  · have e1 := (hK1.2 5 _ rfl).2
    have e2 := (hK.2 2 _ rfl).2
    have he : cA = J 2 := Option.some.inj (e1.symm.trans e2)
    subst he
    exact kk q H1 locs ls X hP1 hD1 hS1 hl
theorem z_anewarr {n : Int} {index : Nat} (N k2 n2 : Nat) (d : decode cc pc = .ok (.anewarray index, 3)) (h1 : Cond.classLink own index "CaveDraw$Cave" ∈ Ts) (hn : n = (N : Int)) (hN : N ≤ 100000) (hk2 : cells + 1 = k2) (hn2 : slots + N = n2) (hc : k2 ≤ R.cells) (hs : n2 ≤ R.slots) (hpc : pc + 3 = pc') (kk : ∀ a : Nat, Z p l e R s m args below meth c Q cc nL Ts own D J A ret nm k2 n2 (ws ++ [(a, zV J N (fun _ => none))]) lv pc' (.ref a :: rest)) : Z p l e R s m args below meth c Q cc nL Ts own D J A ret nm cells slots ws lv pc (.int (zi n) :: rest) := by
  intro H locs ls X hP hD hS hl
  obtain ⟨⟨hx, hb, hml, hown, hts⟩, ⟨hK, hG⟩, hA, hr, hlk, hnm, het, hHH, hst0⟩ := id X
  subst hpc
  subst hk2
  subst hn2
  subst hn
  have hlt : ¬ zi (N : Int) < 0 := fun h => by have := (zi_lt (x := (N : Int)) (y := 0) (by omega) zr0).mp h; omega
  refine va_newq (N' := N) hx hb hown (hts _ h1) hG.1 hK hP hD hS hA hlt (by rw [zi_cl (n := N + 1) (by omega) (by omega)]; omega) (Nat.le_trans (Nat.mul_le_mul hN (Nat.le_refl 4)) (by decide)) hc hs d (fun q cA H1 hK1 hP1 hD1 hS1 => ?_)
  obtain ⟨kA, comp, -, -, -, e1⟩ := (hK1.2 5 _ rfl).2
  obtain ⟨kA', comp', -, -, -, e2⟩ := (hK.2 4 _ rfl).2
  have he : cA = J 4 := Option.some.inj (e1.symm.trans e2)
  subst he
  exact kk q H1 locs ls X hP1 hD1 hS1 hl
theorem z_new {index ci N : Nat} {C : String} {T : u_T} (fs : List Value) (k2 n2 : Nat) (ty : Nat → FieldType) (hty : ∀ k, k < N → parseFieldDescriptor (T k).2.2.1 = some (ty k)) (d : decode cc pc = .ok (.new index, 3)) (hin : ∀ w ∈ u_ws C T N, w ∈ Ts) (h1 : Cond.classLink own index C ∈ Ts) (h2 : Cond.instantiable C N ∈ Ts) (h3 : Cond.initialized C ∈ Ts) (hc : vwCl[ci]? = some (C, T, N)) (hfs : (List.range N).all (fun j => decide (defaultValue (ty j) = vp_V fs j)) = true) (hk2 : cells + 1 = k2) (hn2 : slots + N = n2) (hcc : k2 ≤ R.cells) (hs : n2 ≤ R.slots) (hpc : pc + 3 = pc') (kk : ∀ a : Nat, Z p l e R s m args below meth c Q cc nL Ts own D J A ret nm k2 n2 (ws ++ [(a, .inr (ci, fs))]) lv pc' (.ref a :: rest)) : Z p l e R s m args below meth c Q cc nL Ts own D J A ret nm cells slots ws lv pc rest := by
  intro H locs ls X hP hD hS hl
  obtain ⟨⟨hx, hb, hml, hown, hts⟩, ⟨hK, hG⟩, hA, hr, hlk, hnm, het, hHH, hst0⟩ := id X
  subst hpc
  subst hk2
  subst hn2
  exact va_new hx hb hts hin ty hty hown (hts _ h1) (hts _ h2) (hts _ h3) hK hP hD hS hA hc (fun j hj => of_decide_eq_true (List.all_eq_true.mp hfs j (List.mem_range.mpr hj))) hcc hs d (fun q H1 hP1 hD1 hS1 => kk q H1 locs ls X hP1 hD1 hS1 hl)
theorem z_putfin {index ci N a : Nat} {C : String} {T : u_T} {fs : List Value} {v : Value} {ty : FieldType} (q0 k : Nat) (ws' : va_W) (ty0 : Nat → FieldType) (hty : ∀ k, k < N → parseFieldDescriptor (T k).2.2.1 = some (ty0 k)) (hnf : ∀ a, a < N → ∀ b, b < N → a ≠ b → (T a).2.1 ≠ (T b).2.1) (d : decode cc pc = .ok (.putfield index, 3)) (hin : ∀ w ∈ u_ws C T N, w ∈ Ts) (he : ws[q0]? = some (a, .inr (ci, fs))) (hc : vwCl[ci]? = some (C, T, N)) (hk : k < N) (hlf : Cond.fieldLink own index (T k).1 (T k).2.1 (T k).2.2.1 ∈ Ts) (hfin : (T k).2.2.2 = true) (hini : nm.1 = "<init>") (hdecl : (T k).1 = own) (hd : parseFieldDescriptor (T k).2.2.1 = some ty) (hn : narrow ty v = v) (hfit : fits ty v = true) (hl9 : k < fs.length) (hw : ws.set q0 (a, .inr (ci, fs.set k v)) = ws') (hpc : pc + 3 = pc') (kk : Z p l e R s m args below meth c Q cc nL Ts own D J A ret nm cells slots ws' lv pc' rest) : Z p l e R s m args below meth c Q cc nL Ts own D J A ret nm cells slots ws lv pc (v :: .ref a :: rest) := by
  intro H locs ls X hP hD hS hl
  obtain ⟨⟨hx, hb, hml, hown, hts⟩, ⟨hK, hG⟩, hA, hr, hlk, hnm, het, hHH, hst0⟩ := id X
  subst hpc
  subst hw
  exact va_putF hx hb hts hin ty0 hty hnf hown hK hP hD hS q0 he hc k hk (hts _ hlf) (fun _ h => h) hfin (hnm.trans hini) hdecl hd hn hfit hl9 d (fun H1 locs1 hP1 hD1 hS1 => kk H1 locs1 ls X hP1 hD1 hS1 hl)
theorem z_callI {y : MethodName} {wsy wsy' : List Cond} {rm : Room} {mc ms index maxL : Nat} {As : List Value} {wc wr : va_W} {Pr : Option Value → va_W → Prop} {bytes : ByteArray} {b : Nat} (n : Nat) (hM : ZM l D J y wsy rm mc ms (.ref b :: As) wc Pr) (d : decode cc pc = .ok (.invokespecial index, 3)) (hT : GoodIn Ts wsy) (hw : wsy = Cond.code y bytes maxL none :: wsy') (hrc : rm.cells = mc) (hrs : rm.slots = ms) (hi : Cond.initialized y.cls ∈ Ts) (hlm : Cond.methodLink own index y ∈ Ts) (him : Cond.instanceMethod y ∈ Ts) (hyn : y.name = "<init>")
    (hd : y.cls ≠ "java/lang/invoke/MethodHandle" ∧ y.cls ≠ "java/lang/invoke/VarHandle" ∧ (parseMethodDescriptor y.desc).map (fun d => d.parameters.length) = some n) (hR : rm.frames + 1 ≤ R.frames ∧ 8 + (maxL + 11) + rm.locals ≤ R.locals) (hf : cells + mc ≤ R.cells ∧ slots + ms ≤ R.slots)
    (hspl : z_spl ws wc wr) (hst : st = As.reverse ++ .ref b :: rest) (hn : As.length = n) (hcat : (rest.map fun v => v.category).sum ≤ 8) (hpc : pc + 3 = pc')
    (kk : ∀ (rv : Option Value) (w' : va_W), Pr rv w' → Z p l e R s m args below meth c Q cc nL Ts own D J A ret nm (cells + mc) (slots + ms) (wr ++ w') lv pc' (rv.toList ++ rest)) : Z p l e R s m args below meth c Q cc nL Ts own D J A ret nm cells slots ws lv pc st := by
  intro H locs ls X hP hD hS hl
  obtain ⟨⟨hx, hb, hml, hown, hts⟩, ⟨hK, hG⟩, hA, hr, hlk, hnm, het, hHH, hst0⟩ := id X
  subst hpc
  have hPc := (hspl.P hP).1
  have hDc := (z_D_app (hspl.D hD)).1
  have hF := z_free hspl hD hS hA
  refine z_call0 (va_runI (As := As) (rest := rest) ⟨hx, hb, hml, hown, hts⟩ (hM hst0 H.size) (cwI n hts hT hw hrc hrs (hts _ hi) (hts _ hlm) (hts _ him) hyn hd hR) ⟨z_blind, fun U hU hW => ⟨rfl, by rw [hU], by rw [hU]; exact hPc, zG.warm hW ⟨hK, hG⟩, hDc.weaken (fun _ _ _ _ => trivial), by rw [hU]; exact hHH.step hS hF hW.alike⟩⟩ rfl hn hl.1 hst (by simpa using hcat) d hf) hS (fun q _ h => hF q h) hF (fun rv w' t H1 locs1 ht hvm hp hP1 hD1 hz hk hS1 => ?_)
  obtain ⟨hP2, hD2⟩ := z_join hspl hP hD hk hF hP1 hD1
  exact kk rv w' hp H1 locs1 ls X hP2 hD2 hS1 hl
theorem z_callIN {y : MethodName} {wsy wsy' : List Cond} {rm : Room} {mc ms index maxL : Nat} {As : List Value} {wc wr : va_W} {Pr : Option Value → va_W → Prop} {bytes : ByteArray} {b : Nat} (n : Nat) (hM : ZM l D J y wsy rm mc ms (.ref b :: As) wc Pr) (d : decode cc pc = .ok (.invokespecial index, 3)) (hT : GoodIn Ts wsy) (hw : wsy = Cond.code y bytes maxL none :: wsy') (hrc : rm.cells = mc) (hrs : rm.slots = ms) (hi : Cond.initialized y.cls ∈ Ts) (host : String) (hlm : (own, index, y, host) ∈ zNest) (him : Cond.instanceMethod y ∈ Ts) (hyn : y.name = "<init>")
    (hd : y.cls ≠ "java/lang/invoke/MethodHandle" ∧ y.cls ≠ "java/lang/invoke/VarHandle" ∧ (parseMethodDescriptor y.desc).map (fun d => d.parameters.length) = some n) (hR : rm.frames + 1 ≤ R.frames ∧ 8 + (maxL + 11) + rm.locals ≤ R.locals) (hf : cells + mc ≤ R.cells ∧ slots + ms ≤ R.slots)
    (hspl : z_spl ws wc wr) (hst : st = As.reverse ++ .ref b :: rest) (hn : As.length = n) (hcat : (rest.map fun v => v.category).sum ≤ 8) (hpc : pc + 3 = pc')
    (kk : ∀ (rv : Option Value) (w' : va_W), Pr rv w' → Z p l e R s m args below meth c Q cc nL Ts own D J A ret nm (cells + mc) (slots + ms) (wr ++ w') lv pc' (rv.toList ++ rest)) : Z p l e R s m args below meth c Q cc nL Ts own D J A ret nm cells slots ws lv pc st := by
  intro H locs ls X hP hD hS hl
  obtain ⟨⟨hx, hb, hml, hown, hts⟩, ⟨hK, hG⟩, hA, hr, hlk, hnm, het, hHH, hst0⟩ := id X
  subst hpc
  have hPc := (hspl.P hP).1
  have hDc := (z_D_app (hspl.D hD)).1
  have hF := z_free hspl hD hS hA
  refine z_call0 (va_runIN (host := host) (As := As) (rest := rest) ⟨hx, hb, hml, hown, hts⟩ (hM hst0 H.size) ⟨va_cnB n hts hT hw hrc hrs (hG.2.2.2.2.2.1 _ hlm) (hts _ hi) hd hR, hyn, hts _ him⟩ ⟨z_blind, fun U hU hW => ⟨rfl, by rw [hU], by rw [hU]; exact hPc, zG.warm hW ⟨hK, hG⟩, hDc.weaken (fun _ _ _ _ => trivial), by rw [hU]; exact hHH.step hS hF hW.alike⟩⟩ rfl hn hl.1 hst (by simpa using hcat) d hf) hS (fun q _ h => hF q h) hF (fun rv w' t H1 locs1 ht hvm hp hP1 hD1 hz hk hS1 => ?_)
  obtain ⟨hP2, hD2⟩ := z_join hspl hP hD hk hF hP1 hD1
  exact kk rv w' hp H1 locs1 ls X hP2 hD2 hS1 hl
end ZZ
theorem z_ofZ {l : Launch} {D : va_G} {J : Nat → ClassId} {y : MethodName} {wsy wsy' : List Cond} {rm : Room} {av : List Value} {wc : va_W} {Pr : Option Value → va_W → Prop} {cc : ByteArray} {maxL : Nat} {ret : Option FieldType} (mc ms : Nat) (hy : plainName y.cls = true) (hw : wsy = Cond.code y cc maxL ret :: wsy') (hlen : (lg_sl av).length ≤ maxL) (lv0 : List (Nat × Value)) (hlv : lv_args 0 av = lv0)
    (body : ∀ (p : Program) (e : Env) (s : State) (m : MethodId) (args : Array Value) (below : List Frame) (meth : Method) (c : Code) (A : Nat → Prop), Z p l e rm s m args below meth c (MQ below (zQ D J A Pr) args s mc ms A) cc maxL wsy y.cls D J A ret (y.name, []) 0 0 wc lv0 0 []) : ZM l D J y wsy rm mc ms av wc Pr := by
  intro hl sz
  refine Met.ofW (cc := cc) (maxL := maxL) (ret := ret) hy hw ?_
  intro p e s m args below meth c s₁ B hml hv
  have ht : c.exceptionTable.toList = [] := by
    obtain ⟨meth9, c9, h1, h2, -, -, -, -, h7, -⟩ := Cond.code_spec B.named (atoms_spec (ws := wsy) B.pre _ (by rw [hw]; exact List.mem_cons_self))
    cases Option.some.inj (h1.symm.trans B.method)
    cases Option.some.inj (h2.symm.trans (Stand.of_body B).code)
    rw [Array.isEmpty_iff.mp h7]
  obtain ⟨rfl, hsz, hP, hK, hD0, hHH⟩ := hv
  subst hsz
  subst hlv
  rw [lg_entry_eq]
  refine body p e s m _ below meth c (va_A wc s.heap.size) s.heap [] _ ⟨⟨B.exec, B.bytes, hml, findClass_of_methodNamed B.named, atoms_spec (ws := wsy) B.pre⟩, hK, fun q h => Or.inr h, B.returns, B.notSynchronized, (name_of_methodNamed B.named B.method).1, ht, hHH, hl⟩ hP (hD0.self (sz := s.heap.size)) va_S.rf (lv_entry av hlen)
theorem z_ofZx {l : Launch} {D : va_G} {J : Nat → ClassId} {y : MethodName} {wsy wsy' : List Cond} {rm : Room} {av : List Value} {wc : va_W} {Pr : Option Value → va_W → Prop} {Px : String → va_W → Prop} {cc : ByteArray} {maxL : Nat} {ret : Option FieldType} (mc ms : Nat) (hy : plainName y.cls = true) (hw : wsy = Cond.code y cc maxL ret :: wsy') (hlen : (lg_sl av).length ≤ maxL) (lv0 : List (Nat × Value)) (hlv : lv_args 0 av = lv0)
    (body : ∀ (p : Program) (e : Env) (s : State) (m : MethodId) (args : Array Value) (below : List Frame) (meth : Method) (c : Code) (A : Nat → Prop), Z p l e rm s m args below meth c (vx_MQ below (zQ D J A Pr) (zX D A Px) args s mc ms A) cc maxL wsy y.cls D J A ret (y.name, []) 0 0 wc lv0 0 []) : ZMx l D J y wsy rm mc ms av wc Pr Px := by
  intro hl sz
  refine vx_ofW (cc := cc) (maxL := maxL) (ret := ret) hy hw ?_
  intro p e s m args below meth c s₁ B hml htb hv
  have ht : c.exceptionTable.toList = [] := List.eq_nil_iff_forall_not_mem.mpr fun x hx => htb x hx
  obtain ⟨rfl, hsz, hP, hK, hD0, hHH⟩ := hv
  subst hsz
  subst hlv
  rw [lg_entry_eq]
  refine body p e s m _ below meth c (va_A wc s.heap.size) s.heap [] _ ⟨⟨B.exec, B.bytes, hml, findClass_of_methodNamed B.named, atoms_spec (ws := wsy) B.pre⟩, hK, fun q h => Or.inr h, B.returns, B.notSynchronized, (name_of_methodNamed B.named B.method).1, ht, hHH, hl⟩ hP (hD0.self (sz := s.heap.size)) va_S.rf (lv_entry av hlen)
theorem z_ofZh {l : Launch} {D : va_G} {J : Nat → ClassId} {y : MethodName} {wsy wsy' : List Cond} {rm : Room} {av : List Value} {wc : va_W} {Pr : Option Value → va_W → Prop} {Px : String → va_W → Prop} {hh : List (Nat × Nat × Nat × Nat)} {cc : ByteArray} {maxL : Nat} {ret : Option FieldType} (mc ms : Nat) (hy : plainName y.cls = true) (hw : wsy = Cond.codeWith y cc maxL ret hh :: wsy') (hlen : (lg_sl av).length ≤ maxL) (lv0 : List (Nat × Value)) (hlv : lv_args 0 av = lv0)
    (body : ∀ (p : Program) (e : Env) (s : State) (m : MethodId) (args : Array Value) (below : List Frame) (meth : Method) (c : Code) (A : Nat → Prop), Z p l e rm s m args below meth c (vx_MQ below (zQ D J A Pr) (zX D A Px) args s mc ms A) cc maxL wsy y.cls D J A ret (y.name, tableOf hh) 0 0 wc lv0 0 []) : ZMx l D J y wsy rm mc ms av wc Pr Px := by
  intro hl sz
  refine vx_ofWH (cc := cc) (maxL := maxL) (ret := ret) (hh := hh) hy hw ?_
  intro p e s m args below meth c s₁ B hml hv
  have ht : c.exceptionTable.toList = tableOf hh := vx_table (x := y) B (atoms_spec (ws := wsy) B.pre _ (by rw [hw]; exact List.mem_cons_self))
  obtain ⟨rfl, hsz, hP, hK, hD0, hHH⟩ := hv
  subst hsz
  subst hlv
  rw [lg_entry_eq]
  refine body p e s m _ below meth c (va_A wc s.heap.size) s.heap [] _ ⟨⟨B.exec, B.bytes, hml, findClass_of_methodNamed B.named, atoms_spec (ws := wsy) B.pre⟩, hK, fun q h => Or.inr h, B.returns, B.notSynchronized, (name_of_methodNamed B.named B.method).1, ht, hHH, hl⟩ hP (hD0.self (sz := s.heap.size)) va_S.rf (lv_entry av hlen)
abbrev zCv : Type := (Nat → Int) × (Nat → Int) × (Nat → Int) × (Nat → Int) × Int × Int × Int × Int
/-- a cave's five cells -/
def zcv (J : Nat → ClassId) (a : Nat × Nat × Nat × Nat × Nat) (u : zCv) : va_W := [(a.1, .inr (0, [.ref a.2.1, .ref a.2.2.1, .ref a.2.2.2.1, .ref a.2.2.2.2, .int (zi u.2.2.2.2.1), .int (zi u.2.2.2.2.2.1), .int (zi u.2.2.2.2.2.2.1), .int (zi u.2.2.2.2.2.2.2)])), (a.2.1, zI J 96 u.1), (a.2.2.1, zI J 96 u.2.1), (a.2.2.2.1, zI J 16 u.2.2.1), (a.2.2.2.2, zI J 16 u.2.2.2.1)]
/-- the caves of a list of numbers -/
def zplo (J : Nat → ClassId) (ad : Nat → Nat × Nat × Nat × Nat × Nat) (P : Nat → zCv) (l : List Nat) : va_W := l.flatMap (fun j => zcv J (ad j) (P j))
theorem zad0 {ad : Nat → Nat × Nat × Nat × Nat × Nat} {x : Int} (g : 0 ≤ x ∧ x < ((14 : Nat) : Int)) : va_rf ((fun j => if j < 14 then some (ad j).1 else none) x.toNat) = .ref (ad x.toNat).1 := by
  show va_rf (if x.toNat < 14 then some (ad x.toNat).1 else none) = _
  rw [if_pos (by omega)]; rfl
theorem zad1 {ad : Nat → Nat × Nat × Nat × Nat × Nat} {x : Int} (g : 0 ≤ x ∧ x < ((2 : Nat) : Int)) : va_rf ((fun j => if j < 2 then some (ad (14 + j)).1 else none) x.toNat) = .ref (ad (14 + x.toNat)).1 := by
  show va_rf (if x.toNat < 2 then some (ad (14 + x.toNat)).1 else none) = _
  rw [if_pos (by omega)]; rfl
theorem zadi0 {x : Int} (g : 0 ≤ x ∧ x < ((14 : Nat) : Int)) : x.toNat < 16 := by omega
theorem zadi1 {x : Int} (g : 0 ≤ x ∧ x < ((2 : Nat) : Int)) : 14 + x.toNat < 16 := by omega
theorem z_spl_T1 {X T wc wr : va_W} (h : z_spl X wc wr) : z_spl (X ++ T) wc (wr ++ T) := by
  obtain ⟨g, h1, h2⟩ := h
  have e : wc ++ (wr ++ T) = (wc ++ wr) ++ T := (List.append_assoc _ _ _).symm
  have hg : ∀ k, k < (wc ++ wr).length → g k < X.length := fun k hk => (List.getElem?_eq_some_iff.mp (h1 k _ (List.getElem?_eq_getElem hk))).1
  refine ⟨fun k => if k < (wc ++ wr).length then g k else X.length + (k - (wc ++ wr).length), fun k q hq => ?_, fun i j hi hj he => ?_⟩
  · rw [e] at hq
    by_cases hk : k < (wc ++ wr).length
    · rw [List.getElem?_append_left hk] at hq
      show (X ++ T)[if k < (wc ++ wr).length then g k else _]? = _
      rw [if_pos hk, List.getElem?_append_left (hg k hk)]
      exact h1 k q hq
    · rw [List.getElem?_append_right (by omega)] at hq
      show (X ++ T)[if k < (wc ++ wr).length then g k else _]? = _
      rw [if_neg hk, List.getElem?_append_right (by omega), Nat.add_sub_cancel_left]
      exact hq
  · have he : (if i < (wc ++ wr).length then g i else X.length + (i - (wc ++ wr).length)) = if j < (wc ++ wr).length then g j else X.length + (j - (wc ++ wr).length) := he
    by_cases hi' : i < (wc ++ wr).length
    · by_cases hj' : j < (wc ++ wr).length
      · rw [if_pos hi', if_pos hj'] at he
        exact h2 i j hi' hj' he
      · rw [if_pos hi', if_neg hj'] at he
        have := hg i hi'
        omega
    · by_cases hj' : j < (wc ++ wr).length
      · rw [if_neg hi', if_pos hj'] at he
        have := hg j hj'
        omega
      · rw [if_neg hi', if_neg hj'] at he
        omega
theorem z_spl_T2 {X T wc wr : va_W} (h : z_spl X wc wr) : z_spl (X ++ T) (wc ++ T) wr := by
  obtain ⟨g, h1, h2⟩ := z_spl_T1 (T := T) h
  refine ⟨fun k => g (if k < wc.length then k else if k < wc.length + T.length then k + wr.length else k - T.length), fun k q hq => ?_, fun i j hi hj he => ?_⟩
  · refine h1 _ q ?_
    have := va_swapG (a := wc) (b := wr) (c := T) k q (by exact hq)
    rw [List.append_assoc] at this
    exact this
  · simp only [List.length_append] at hi hj
    have := h2 _ _ (by simp only [List.length_append]; split <;> (try split) <;> omega) (by simp only [List.length_append]; split <;> (try split) <;> omega) he
    revert this
    split <;> (try split) <;> (try split) <;> (try split) <;> omega
theorem zP_mem {D : va_G} {cl : List vw_C} {ws : va_W} {H : Heap} : va_P D cl ws H ↔ ∀ q ∈ ws, va_at D cl q H :=
  ⟨fun h q hq => by obtain ⟨k, hk⟩ := List.getElem?_of_mem hq; exact h k q hk, fun h k q hk => h q (List.mem_of_getElem? hk)⟩
theorem zD_mem {A : Nat → Prop} {ws : va_W} : va_D A ws ↔ (ws.map (fun q => q.1)).Nodup ∧ ∀ q ∈ ws, A q.1 := by
  refine ⟨fun h => ⟨?_, fun q hq => by obtain ⟨k, hk⟩ := List.getElem?_of_mem hq; exact h.2 k q hk⟩, fun h => ⟨fun i j p q hi hj he => ?_, fun k q hk => h.2 q (List.mem_of_getElem? hk)⟩⟩
  · rw [List.nodup_iff_pairwise_ne, List.pairwise_iff_getElem]
    intro i j hi hj hij he
    rw [List.length_map] at hi hj
    rw [List.getElem_map, List.getElem_map] at he
    have := h.1 i j _ _ (List.getElem?_eq_getElem hi) (List.getElem?_eq_getElem hj) he
    omega
  · have hi' := (List.getElem?_eq_some_iff.mp hi)
    have hj' := (List.getElem?_eq_some_iff.mp hj)
    obtain ⟨hi1, hi2⟩ := hi'
    obtain ⟨hj1, hj2⟩ := hj'
    have := List.pairwise_iff_getElem.mp (List.nodup_iff_pairwise_ne.mp h.1)
    rcases Nat.lt_trichotomy i j with hl | hl | hl
    · exact absurd (by rw [List.getElem_map, List.getElem_map, hi2, hj2]; exact he) (this i j (by rw [List.length_map]; exact hi1) (by rw [List.length_map]; exact hj1) hl)
    · exact hl
    · exact absurd (by rw [List.getElem_map, List.getElem_map, hi2, hj2]; exact he.symm) (this j i (by rw [List.length_map]; exact hj1) (by rw [List.length_map]; exact hi1) hl)
theorem z_ofperm {D : va_G} {cl : List vw_C} {A : Nat → Prop} {ws ws' : va_W} {H : Heap} (h : ws'.Perm ws) (hP : va_P D cl ws H) (hD : va_D A ws) : va_P D cl ws' H ∧ va_D A ws' :=
  ⟨zP_mem.mpr fun q hq => zP_mem.mp hP q (h.mem_iff.mp hq), zD_mem.mpr ⟨((h.map _).nodup_iff).mpr (zD_mem.mp hD).1, fun q hq => (zD_mem.mp hD).2 q (h.mem_iff.mp hq)⟩⟩
theorem zplo_perm {J : Nat → ClassId} {ad : Nat → Nat × Nat × Nat × Nat × Nat} {P : Nat → zCv} {i : Nat} {l : List Nat} (hi : i ∈ l) : (zcv J (ad i) (P i) ++ zplo J ad P (l.erase i)).Perm (zplo J ad P l) := by
  have h : (i :: l.erase i).Perm l := (List.perm_cons_erase hi).symm
  have h2 := h.flatMap_right (fun j => zcv J (ad j) (P j))
  rw [List.flatMap_cons] at h2
  exact h2
theorem zplo_up {J : Nat → ClassId} {ad : Nat → Nat × Nat × Nat × Nat × Nat} {P : Nat → zCv} {i : Nat} {u : zCv} {l : List Nat} (hl : i ∉ l) : zplo J ad (va_up P i u) l = zplo J ad P l := by
  unfold zplo
  induction l with
  | nil => rfl
  | cons a l ih =>
    rw [List.flatMap_cons, List.flatMap_cons, ih (fun h => hl (List.mem_cons_of_mem _ h))]
    have : a ≠ i := fun h => hl (by rw [h]; exact List.mem_cons_self)
    show zcv J (ad a) (if a = i then u else P a) ++ _ = _
    rw [if_neg this]
abbrev zC0 : zCv := (fun _ => 0, fun _ => 0, fun _ => 0, fun _ => 0, 0, 0, 0, 0)
def zad3 (a b : Nat → Nat × Nat × Nat × Nat × Nat) : Nat → Nat × Nat × Nat × Nat × Nat := fun j => if j < 14 then a j else b (j - 14)
theorem zst_h (a b : Nat → Nat × Nat × Nat × Nat × Nat) : (fun j => if j < 14 then some (a j).1 else none) = (fun j => if j < 14 then some (zad3 a b j).1 else none) := by
  funext j; by_cases h : j < 14
  · rw [if_pos h, if_pos h]; unfold zad3; rw [if_pos h]
  · rw [if_neg h, if_neg h]
theorem zst_s (a b : Nat → Nat × Nat × Nat × Nat × Nat) : (fun j => if j < 2 then some (b j).1 else none) = (fun j => if j < 2 then some (zad3 a b (14 + j)).1 else none) := by
  funext j; by_cases h : j < 2
  · rw [if_pos h, if_pos h]; unfold zad3; rw [if_neg (by omega), Nat.add_sub_cancel_left]
  · rw [if_neg h, if_neg h]
theorem zpl_join (J : Nat → ClassId) (a b : Nat → Nat × Nat × Nat × Nat × Nat) : zplo J a (fun _ => zC0) (List.range 14) ++ zplo J b (fun _ => zC0) (List.range 2) = zplo J (zad3 a b) (fun _ => zC0) (List.range 16) := by rfl
theorem zrng_erase {i n : Nat} : i ∉ (List.range n).erase i := List.Nodup.not_mem_erase List.nodup_range
section ZT
variable {p : Program} {l : Launch} {e : Env} {R : Room} {s : State} {m : MethodId} {args : Array Value} {below : List Frame} {meth : Method} {c : Code} {Q : State → Prop} {cc : ByteArray} {nL : Nat} {Ts : List Cond} {own : String} {D : va_G} {J : Nat → ClassId} {A : Nat → Prop} {ret : Option FieldType} {nm : String × List ExceptionTableEntry}
variable {cells slots : Nat} {ws : va_W} {lv : List (Nat × Value)} {pc pc' : Nat} {st rest : List Value}
theorem z_permT {X T : va_W} (X' : va_W) (lv' : List (Nat × Value)) (is ks : List Nat) (hn : va_nd is = true) (hs : is.map (fun i => X[i]?) = X'.map some) (hk : lv_pick lv ks = lv') (kk : Z p l e R s m args below meth c Q cc nL Ts own D J A ret nm cells slots (X' ++ T) lv' pc st) : Z p l e R s m args below meth c Q cc nL Ts own D J A ret nm cells slots (X ++ T) lv pc st := by
  intro H locs ls X0 hP hD hS hl
  exact kk H locs ls X0 (hP.part is hs) (hD.part is hn hs) hS (lv_sub hl ks hk)
theorem zt_perm {E : String} (ws' : va_W) (is : List Nat) (hn : va_nd is = true) (hs : is.map (fun i => ws[i]?) = ws'.map some) (kk : Zt p l e R s m args below meth c Q cc nL Ts own D J A ret nm cells slots ws' lv pc st E) : Zt p l e R s m args below meth c Q cc nL Ts own D J A ret nm cells slots ws lv pc st E := by
  intro H locs ls q ce X0 hP hD hS hl
  exact kk H locs ls q ce X0 (hP.sub is (z_fm hs)) (hD.sub is hn hs) hS hl
theorem zt_permT {E : String} {X T : va_W} (X' : va_W) (is : List Nat) (hn : va_nd is = true) (hs : is.map (fun i => X[i]?) = X'.map some) (kk : Zt p l e R s m args below meth c Q cc nL Ts own D J A ret nm cells slots (X' ++ T) lv pc st E) : Zt p l e R s m args below meth c Q cc nL Ts own D J A ret nm cells slots (X ++ T) lv pc st E := by
  intro H locs ls q ce X0 hP hD hS hl
  exact kk H locs ls q ce X0 (hP.part is hs) (hD.part is hn hs) hS hl
theorem zt_ws {E : String} (ws' : va_W) (h : ws = ws') (kk : Zt p l e R s m args below meth c Q cc nL Ts own D J A ret nm cells slots ws' lv pc st E) : Zt p l e R s m args below meth c Q cc nL Ts own D J A ret nm cells slots ws lv pc st E := by rw [h]; exact kk
theorem z_swapT {a T b : va_W} (kk : Z p l e R s m args below meth c Q cc nL Ts own D J A ret nm cells slots ((a ++ b) ++ T) lv pc st) : Z p l e R s m args below meth c Q cc nL Ts own D J A ret nm cells slots ((a ++ T) ++ b) lv pc st := fun H locs ls X0 hP hD hS hl => kk H locs ls X0 hP.swap hD.swap hS hl
theorem z_swap2 {a T b T2 : va_W} (kk : Z p l e R s m args below meth c Q cc nL Ts own D J A ret nm cells slots ((a ++ b) ++ (T ++ T2)) lv pc st) : Z p l e R s m args below meth c Q cc nL Ts own D J A ret nm cells slots ((a ++ T) ++ (b ++ T2)) lv pc st := by
  intro H locs ls X0 hP hD hS hl
  rw [← List.append_assoc] at hP hD
  have hpm : ((a ++ b) ++ T).Perm ((a ++ T) ++ b) := by
    rw [List.append_assoc, List.append_assoc]
    exact (List.perm_append_comm).append_left a
  have hP1 := z_ofperm (hpm.append_right T2) hP hD
  rw [List.append_assoc (a ++ b) T T2] at hP1
  exact kk H locs ls X0 hP1.1 hP1.2 hS hl
theorem z_swapT2 {a b T : va_W} (kk : Z p l e R s m args below meth c Q cc nL Ts own D J A ret nm cells slots (a ++ (T ++ b)) lv pc st) : Z p l e R s m args below meth c Q cc nL Ts own D J A ret nm cells slots ((a ++ b) ++ T) lv pc st := fun H locs ls X0 hP hD hS hl => by
  have hP1 := z_ofperm (ws' := a ++ (T ++ b)) (by rw [List.append_assoc]; exact (List.perm_append_comm).append_left a) hP hD
  exact kk H locs ls X0 hP1.1 hP1.2 hS hl
theorem zt_swapT {E : String} {a T b : va_W} (kk : Zt p l e R s m args below meth c Q cc nL Ts own D J A ret nm cells slots ((a ++ b) ++ T) lv pc st E) : Zt p l e R s m args below meth c Q cc nL Ts own D J A ret nm cells slots ((a ++ T) ++ b) lv pc st E := fun H locs ls q ce X0 hP hD hS hl => kk H locs ls q ce X0 hP.swap hD.swap hS hl
theorem z_aaload {n a : Nat} {f : Nat → Option Nat} {x : Int} {v : Value} (q0 : Nat) (d : decode cc pc = .ok (.aaload, 1)) (he : ws[q0]? = some (a, zV J n f)) (hn : n ≤ 2147483647) (gx : 0 ≤ x ∧ x < (n : Int)) (hv : va_rf (f x.toNat) = v) (hpc : pc + 1 = pc') (kk : Z p l e R s m args below meth c Q cc nL Ts own D J A ret nm cells slots ws lv pc' (v :: rest)) : Z p l e R s m args below meth c Q cc nL Ts own D J A ret nm cells slots ws lv pc (.int (zi x) :: .ref a :: rest) := by
  intro H locs ls X hP hD hS hl
  obtain ⟨⟨hx, hb, hml, hown, hts⟩, ⟨hK, hG⟩, hA, hr, hlk, hnm, het, hHH, hst0⟩ := id X
  subst hpc
  subst hv
  refine va_aldq hx hb hK hP q0 4 he rfl (zi_in gx hn) d ?_
  rw [zi_cl gx hn]
  exact kk H locs ls X hP hD hS hl
theorem z_pool_out {X : va_W} {ad : Nat → Nat × Nat × Nat × Nat × Nat} {P : Nat → zCv} (i : Nat) (hi : i < 16) (kk : Z p l e R s m args below meth c Q cc nL Ts own D J A ret nm cells slots (X ++ (zcv J (ad i) (P i) ++ zplo J ad P ((List.range 16).erase i))) lv pc st) : Z p l e R s m args below meth c Q cc nL Ts own D J A ret nm cells slots (X ++ zplo J ad P (List.range 16)) lv pc st := by
  intro H locs ls X0 hP hD hS hl
  obtain ⟨h1, h2⟩ := z_ofperm ((zplo_perm (List.mem_range.mpr hi)).append_left X) hP hD
  exact kk H locs ls X0 h1 h2 hS hl
theorem z_pool_back {X : va_W} {ad : Nat → Nat × Nat × Nat × Nat × Nat} {P : Nat → zCv} (i : Nat) (hi : i < 16) (kk : Z p l e R s m args below meth c Q cc nL Ts own D J A ret nm cells slots (X ++ zplo J ad P (List.range 16)) lv pc st) : Z p l e R s m args below meth c Q cc nL Ts own D J A ret nm cells slots (X ++ (zcv J (ad i) (P i) ++ zplo J ad P ((List.range 16).erase i))) lv pc st := by
  intro H locs ls X0 hP hD hS hl
  obtain ⟨h1, h2⟩ := z_ofperm ((zplo_perm (List.mem_range.mpr hi)).append_left X).symm hP hD
  exact kk H locs ls X0 h1 h2 hS hl
theorem z_pool_in {X : va_W} {ad : Nat → Nat × Nat × Nat × Nat × Nat} {P : Nat → zCv} {u : zCv} (i : Nat) (hi : i < 16) (kk : Z p l e R s m args below meth c Q cc nL Ts own D J A ret nm cells slots (X ++ zplo J ad (va_up P i u) (List.range 16)) lv pc st) : Z p l e R s m args below meth c Q cc nL Ts own D J A ret nm cells slots (X ++ (zcv J (ad i) u ++ zplo J ad P ((List.range 16).erase i))) lv pc st := by
  intro H locs ls X0 hP hD hS hl
  have hp := zplo_perm (J := J) (ad := ad) (P := va_up P i u) (List.mem_range.mpr hi)
  rw [zplo_up zrng_erase, show va_up P i u i = u from if_pos rfl] at hp
  obtain ⟨h1, h2⟩ := z_ofperm (hp.append_left X).symm hP hD
  exact kk H locs ls X0 h1 h2 hS hl
theorem z_aastore {n a v : Nat} {f : Nat → Option Nat} {x : Int} {vs : List Value} (q0 qk : Nat) (ws' : va_W) (d : decode cc pc = .ok (.aastore, 1)) (he : ws[q0]? = some (a, zV J n f)) (hv : ws[qk]? = some (v, .inr (0, vs))) (hn : n ≤ 2147483647) (gx : 0 ≤ x ∧ x < (n : Int)) (hw : ws.set q0 (a, zV J n (va_up f x.toNat (some v))) = ws') (hpc : pc + 1 = pc') (kk : Z p l e R s m args below meth c Q cc nL Ts own D J A ret nm cells slots ws' lv pc' rest) : Z p l e R s m args below meth c Q cc nL Ts own D J A ret nm cells slots ws lv pc (.ref v :: .int (zi x) :: .ref a :: rest) := by
  intro H locs ls X hP hD hS hl
  obtain ⟨⟨hx, hb, hml, hown, hts⟩, ⟨hK, hG⟩, hA, hr, hlk, hnm, het, hHH, hst0⟩ := id X
  subst hpc
  subst hw
  refine va_astq hx hb hK hP hD hS q0 4 qk 0 (r := (RX0, TX0, 8)) he rfl hv rfl (zi_in gx hn) d (fun H1 locs1 hP1 hD1 hS1 => ?_)
  rw [zi_cl gx hn] at hP1 hD1
  exact kk H1 locs1 ls X hP1 hD1 hS1 hl
theorem z_sld {b L : Nat} {xs : Nat → Int} {x : Int} (hX : va_X b L (fun j => zi (xs j)) s s.heap) (hbl : b < s.heap.size) (hbA : ¬ A b) (hL : L ≤ 2147483647) (d : decode cc pc = .ok (.iaload, 1)) (gx : 0 ≤ x ∧ x < (L : Int)) (hpc : pc + 1 = pc') (kk : Z p l e R s m args below meth c Q cc nL Ts own D J A ret nm cells slots ws lv pc' (.int (zi (xs x.toNat)) :: rest)) : Z p l e R s m args below meth c Q cc nL Ts own D J A ret nm cells slots ws lv pc (.int (zi x) :: .ref b :: rest) := by
  intro H locs ls X hP hD hS hl
  obtain ⟨⟨hx, hb, hml, hown, hts⟩, ⟨hK, hG⟩, hA, hr, hlk, hnm, het, hHH, hst0⟩ := id X
  subst hpc
  refine va_sld hx hb hX hbl hbA hS (zi_in gx hL) d ?_
  rw [zi_cl gx hL]
  exact kk H locs ls X hP hD hS hl
theorem z_slen {b L : Nat} {xs : Nat → Int} (hX : va_X b L (fun j => zi (xs j)) s s.heap) (hbl : b < s.heap.size) (hbA : ¬ A b) (d : decode cc pc = .ok (.arraylength, 1)) (hpc : pc + 1 = pc') (kk : Z p l e R s m args below meth c Q cc nL Ts own D J A ret nm cells slots ws lv pc' (.int (zi (L : Int)) :: rest)) : Z p l e R s m args below meth c Q cc nL Ts own D J A ret nm cells slots ws lv pc (.ref b :: rest) := by
  intro H locs ls X hP hD hS hl
  obtain ⟨⟨hx, hb, hml, hown, hts⟩, ⟨hK, hG⟩, hA, hr, hlk, hnm, het, hHH, hst0⟩ := id X
  subst hpc
  have kk := kk H locs ls X hP hD hS hl
  rw [show zi (L : Int) = Int32.ofNat L from Int32.ofInt_eq_ofNat] at kk
  exact va_slen hx hb hX hbl hbA hS d kk
end ZT
theorem zrc {n : Nat} (h : n ≤ 849423) : n ≤ room_1.cells := h
theorem zrs {n : Nat} (h : n ≤ 6553199) : n ≤ room_1.slots := h
