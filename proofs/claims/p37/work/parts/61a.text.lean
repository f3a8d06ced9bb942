/-! THE TEXT: how it is read -/
def sg_of (L : Nat) (s : Nat → Int) (j : Nat) : Int := if j < L then s j else -1
def tx_ok (L : Nat) (s : Nat → Int) : Prop := L ≤ 120 ∧ ∀ j, j < L → 0 ≤ s j ∧ s j ≤ 255
theorem sg_rng {L : Nat} {s : Nat → Int} (T : tx_ok L s) (j : Nat) : -1 ≤ sg_of L s j ∧ sg_of L s j ≤ 255 := by
  unfold sg_of
  split
  · have := T.2 j (by assumption); omega
  · omega
theorem sg_in {L : Nat} {s : Nat → Int} {j : Nat} (h : sg_of L s j ≠ -1) : j < L := by
  unfold sg_of at h
  split at h
  · assumption
  · exact absurd rfl h
abbrev zTx : Type := Nat ⊕ (Nat × zSl)
def pc (L : Nat) (s : Nat → Int) : Nat → Nat → zTx
  | 0, at0 => if sg_of L s at0 = 59 then .inr (at0 + 1, []) else .inl at0
  | m + 1, at0 => if sg_of L s at0 = 59 then .inr (at0 + 1, []) else
      if 1 ≤ sg_of L s at0 - 48 ∧ sg_of L s at0 - 48 ≤ 9 then
        (if 0 ≤ sg_of L s (at0 + 1) - 48 ∧ sg_of L s (at0 + 1) - 48 ≤ 9 then
          (match pc L s m (at0 + 2) with
            | .inl e => .inl e
            | .inr r => .inr (r.1, (sg_of L s at0 - 48, sg_of L s (at0 + 1) - 48) :: r.2))
        else .inl (at0 + 1))
      else .inl at0
abbrev zTy : Type := Nat ⊕ (Nat × List zSl)
def ps (L : Nat) (s : Nat → Int) : Nat → Nat → zTy
  | 0, at0 => .inr (at0, [])
  | m + 1, at0 => match pc L s 6 at0 with
    | .inl e => .inl e
    | .inr r => (match ps L s m r.1 with
      | .inl e => .inl e
      | .inr q => .inr (q.1, r.2 :: q.2))
theorem pc_le {L : Nat} {s : Nat → Int} : ∀ (m at0 : Nat), at0 ≤ L → (∀ e, pc L s m at0 = .inl e → e ≤ L) ∧ (∀ r, pc L s m at0 = .inr r → r.1 ≤ L ∧ r.2.length ≤ m ∧ ∀ x ∈ r.2, 1 ≤ x.1 ∧ x.1 ≤ 9 ∧ 0 ≤ x.2 ∧ x.2 ≤ 9)
  | 0, at0, h => by
    rw [pc]
    split
    · rename_i h59
      have := sg_in (L := L) (s := s) (j := at0) (by omega)
      refine ⟨fun e z => (by cases z), fun r z => ?_⟩
      injection z with z
      subst z
      exact ⟨by show at0 + 1 ≤ L; omega, Nat.le_refl _, fun x hx => by cases hx⟩
    · refine ⟨fun e z => ?_, fun r z => by cases z⟩
      injection z with z
      omega
  | m + 1, at0, h => by
    rw [pc]
    split
    · rename_i h59
      have := sg_in (L := L) (s := s) (j := at0) (by omega)
      refine ⟨fun e z => (by cases z), fun r z => ?_⟩
      injection z with z
      subst z
      exact ⟨by show at0 + 1 ≤ L; omega, Nat.zero_le _, fun x hx => by cases hx⟩
    · split
      · rename_i h1 h2
        have l1 := sg_in (L := L) (s := s) (j := at0) (by omega)
        split
        · rename_i h3
          have l2 := sg_in (L := L) (s := s) (j := at0 + 1) (by omega)
          have ih := pc_le (L := L) (s := s) m (at0 + 2) (by omega)
          cases hp : pc L s m (at0 + 2) with
          | inl e =>
            refine ⟨fun e' z => ?_, fun r z => by cases z⟩
            injection z with z
            have := ih.1 e hp
            omega
          | inr r =>
            refine ⟨fun e' z => (by cases z), fun r' z => ?_⟩
            injection z with z
            subst z
            have := ih.2 r hp
            refine ⟨this.1, by rw [List.length_cons]; omega, fun x hx => ?_⟩
            rcases List.mem_cons.mp hx with rfl | hx
            · exact ⟨h2.1, h2.2, h3.1, h3.2⟩
            · exact this.2.2 x hx
        · refine ⟨fun e z => ?_, fun r z => by cases z⟩
          injection z with z
          omega
      · refine ⟨fun e z => ?_, fun r z => by cases z⟩
        injection z with z
        omega
theorem ps_le {L : Nat} {s : Nat → Int} : ∀ (m at0 : Nat), at0 ≤ L → (∀ e, ps L s m at0 = .inl e → e ≤ L) ∧ (∀ r, ps L s m at0 = .inr r → r.1 ≤ L ∧ r.2.length = m ∧ ∀ l ∈ r.2, ab_ok l)
  | 0, at0, h => by
    rw [ps]
    refine ⟨fun e z => (by cases z), fun r z => ?_⟩
    injection z with z
    subst z
    exact ⟨h, rfl, fun l hl => by cases hl⟩
  | m + 1, at0, h => by
    rw [ps]
    have h1 := pc_le (L := L) (s := s) 6 at0 h
    cases hp : pc L s 6 at0 with
    | inl e =>
      refine ⟨fun e' z => ?_, fun r z => by cases z⟩
      injection z with z
      have := h1.1 e hp
      omega
    | inr r =>
      have h2 := h1.2 r hp
      have h3 := ps_le (L := L) (s := s) m r.1 h2.1
      dsimp only
      cases hq : ps L s m r.1 with
      | inl e =>
        refine ⟨fun e' z => ?_, fun r z => by cases z⟩
        injection z with z
        have := h3.1 e hq
        omega
      | inr q =>
        refine ⟨fun e' z => (by cases z), fun r' z => ?_⟩
        injection z with z
        subst z
        have h4 := h3.2 q hq
        refine ⟨h4.1, by rw [List.length_cons, h4.2.1], fun l hl => ?_⟩
        rcases List.mem_cons.mp hl with rfl | hl
        · exact ⟨h2.2.1, h2.2.2⟩
        · exact h4.2.2 l hl
-- ===== the class =====
theorem c_sign {F L : Nat} {s : Nat → Int} (T : tx_ok L s) {j : Nat} (hj : j ≤ 1000) : sh_X1_sign F (L : Int) s (j : Int) = some (sg_of L s j) := by
  have := T.1
  unfold sh_X1_sign sg_of
  rw [zkr_t (by omega) (by omega), if_neg (by omega), zkr_t (by omega) (by omega)]
  by_cases c : j < L
  · rw [if_pos (by omega), if_pos c, zkx_t (by omega) (by omega), ix_n]
  · rw [if_neg (by omega), if_neg c]
theorem c_digit {F L : Nat} {s : Nat → Int} (T : tx_ok L s) {j : Nat} (hj : j ≤ 1000) : sh_X1_digit F (L : Int) s (j : Int) = some (sg_of L s j - 48) := by
  unfold sh_X1_digit
  rw [c_sign T hj, Option.bind_some]
theorem c_isDigit {F L : Nat} {s : Nat → Int} (T : tx_ok L s) {j : Nat} (hj : j ≤ 1000) {lo hi : Int} (hl : 0 ≤ lo ∧ lo ≤ 9) (hh : 0 ≤ hi ∧ hi ≤ 9) : sh_X1_isDigit F (L : Int) s (j : Int) lo hi = some (if lo ≤ sg_of L s j - 48 ∧ sg_of L s j - 48 ≤ hi then 1 else 0) := by
  have h := sg_rng T j
  unfold sh_X1_isDigit
  rw [c_digit T hj, Option.bind_some, zkr_t (by omega) (by omega), zkr_t (by omega) (by omega)]
  by_cases c : sg_of L s j - 48 < lo
  · rw [if_pos c, if_neg (by omega)]
  · rw [if_neg c, Option.bind_some, zkr_t (by omega) (by omega), zkr_t (by omega) (by omega)]
    by_cases c2 : hi < sg_of L s j - 48
    · rw [if_pos c2, if_neg (by omega)]
    · rw [if_neg c2, if_pos (by omega)]
theorem zx_not : ∀ v : Nat, v < 200 → zxor (v : Int) (-1 : Int) = -(v : Int) - 1 := by decide +kernel
theorem zx_not2 : ∀ v : Nat, v < 200 → zxor (-(v : Int) - 1) (-1 : Int) = (v : Int) := by decide +kernel
def pc_z : zTx → Int
  | .inl e => -(e : Int) - 1
  | .inr r => (r.1 : Int)
theorem c_colEnd_L {F L : Nat} {s : Nat → Int} (T : tx_ok L s) : ∀ (m N at0 i : Nat), i + m = 6 → m < N → at0 ≤ L → sh_X1_columnEnd_L4 F (L : Int) s (fun v15 _ => (sh_X1_sign F (L : Int) s v15).bind (fun (q17 : Int) => zkr q17 (if q17 = (59 : Int) then some (v15 + (1 : Int)) else some (zxor v15 (-1))))) N (at0 : Int) (i : Int) = some (pc_z (pc L s m at0)) := by
  have hL := T.1
  intro m
  induction m with
  | zero =>
    intro N at0 i hi hN ha
    obtain ⟨N, rfl⟩ : ∃ M, N = M + 1 := ⟨N - 1, by omega⟩
    have h := sg_rng T at0
    rw [sh_X1_columnEnd_L4, zkr_t (by omega) (by omega), if_neg (by omega), c_sign T (by omega), Option.bind_some, zkr_t (by omega) (by omega), pc]
    by_cases c : sg_of L s at0 = 59
    · rw [if_pos c, if_pos c]; rfl
    · rw [if_neg c, if_neg c, zx_not at0 (by omega)]; rfl
  | succ m ih =>
    intro N at0 i hi hN ha
    obtain ⟨N, rfl⟩ : ∃ M, N = M + 1 := ⟨N - 1, by omega⟩
    have h := sg_rng T at0
    have h' := sg_rng T (at0 + 1)
    have e1 := c_isDigit (F := F) T (j := at0) (by omega) (lo := 1) (hi := 9) (by decide) (by decide)
    have e2 : sh_X1_isDigit F (L : Int) s ((at0 : Int) + (1 : Int)) 0 9 = _ := c_isDigit (F := F) T (j := at0 + 1) (by omega) (lo := 0) (hi := 9) (by decide) (by decide)
    rw [sh_X1_columnEnd_L4, zkr_t (by omega) (by omega), if_pos (by omega), c_sign T (by omega), Option.bind_some, zkr_t (by omega) (by omega), pc]
    by_cases c : sg_of L s at0 = 59
    · rw [if_pos c, if_pos c, Option.bind_some, zkr_t (by omega) (by omega), if_pos c]; rfl
    · rw [if_neg c, if_neg c, e1, Option.bind_some]
      by_cases d1 : 1 ≤ sg_of L s at0 - 48 ∧ sg_of L s at0 - 48 ≤ 9
      · rw [if_pos d1, if_pos d1, zkr_t (by omega) (by omega), if_neg (by omega), e2, Option.bind_some]
        by_cases d2 : 0 ≤ sg_of L s (at0 + 1) - 48 ∧ sg_of L s (at0 + 1) - 48 ≤ 9
        · have l2 := sg_in (L := L) (s := s) (j := at0 + 1) (by omega)
          rw [if_pos d2, if_pos d2, zkr_t (by omega) (by omega), if_neg (by omega)]
          have i' := ih N (at0 + 2) (i + 1) (by omega) (by omega) (by omega)
          refine Eq.trans i' ?_
          cases pc L s m (at0 + 2) <;> rfl
        · rw [if_neg d2, if_neg d2, zkr_t (by omega) (by omega), if_pos rfl]
          have := zx_not (at0 + 1) (by have := sg_in (L := L) (s := s) (j := at0) (by omega); omega)
          exact congrArg some this
      · rw [if_neg d1, if_neg d1, zkr_t (by omega) (by omega), if_pos rfl, zx_not at0 (by omega)]; rfl
theorem c_colEnd {F L : Nat} {s : Nat → Int} (hF : 20 ≤ F) (T : tx_ok L s) {at0 : Nat} (ha : at0 ≤ L) : sh_X1_columnEnd F (L : Int) s (at0 : Int) = some (pc_z (pc L s 6 at0)) := by
  unfold sh_X1_columnEnd
  exact c_colEnd_L T 6 F at0 0 (by omega) (by omega) ha
def tx_end (L : Nat) : zTy → Int
  | .inl e => (e : Int)
  | .inr r => if r.1 < L then (r.1 : Int) else -9
theorem c_err_L {F L n : Nat} {s : Nat → Int} {q4 q6 : Int} (hF : 20 ≤ F) (T : tx_ok L s) (hq : q4 * q6 = (n : Int)) (hn : n ≤ 16) : ∀ (m N p at0 : Nat), p + m = n → m < N → at0 ≤ L → sh_X1_findError_L30 F (L : Int) s q4 q6 (fun v17 _ => zkr v17 (zkr (L : Int) (if v17 < (L : Int) then some v17 else some (-9)))) N (at0 : Int) (p : Int) = some (tx_end L (ps L s m at0)) := by
  have hL := T.1
  intro m
  induction m with
  | zero =>
    intro N p at0 hp hN ha
    obtain ⟨N, rfl⟩ : ∃ M, N = M + 1 := ⟨N - 1, by omega⟩
    rw [sh_X1_findError_L30, hq, zkr_t (by omega) (by omega), zkr_t (by omega) (by omega), if_neg (by omega), zkr_t (by omega) (by omega), zkr_t (by omega) (by omega), ps]
    unfold tx_end
    dsimp only
    by_cases c : at0 < L
    · rw [if_pos (by omega), if_pos c]
    · rw [if_neg (by omega), if_neg c]
  | succ m ih =>
    intro N p at0 hp hN ha
    obtain ⟨N, rfl⟩ : ∃ M, N = M + 1 := ⟨N - 1, by omega⟩
    have h1 := pc_le (L := L) (s := s) 6 at0 ha
    rw [sh_X1_findError_L30, hq, zkr_t (by omega) (by omega), zkr_t (by omega) (by omega), if_pos (by omega), c_colEnd hF T ha, Option.bind_some, ps]
    cases hp : pc L s 6 at0 with
    | inl e =>
      have := h1.1 e hp
      rw [show pc_z (Sum.inl e) = -(e : Int) - 1 from rfl, zkr_t (by omega) (by omega), if_pos (by omega), zx_not2 e (by omega)]
      rfl
    | inr r =>
      have h2 := h1.2 r hp
      rw [show pc_z (Sum.inr r) = (r.1 : Int) from rfl, zkr_t (by omega) (by omega), if_neg (by omega), nc_s, ih N (p + 1) r.1 (by omega) (by omega) h2.1]
      dsimp only
      cases ps L s m r.1 <;> rfl
def tx_err (L : Nat) (s : Nat → Int) : Int :=
  if sg_of L s 0 = 68 then (if 1 ≤ sg_of L s 1 - 48 ∧ sg_of L s 1 - 48 ≤ 4 then (if 1 ≤ sg_of L s 2 - 48 ∧ sg_of L s 2 - 48 ≤ 4 then (if 1 ≤ sg_of L s 3 - 48 ∧ sg_of L s 3 - 48 ≤ 9 then tx_end L (ps L s ((sg_of L s 1 - 48).toNat * (sg_of L s 2 - 48).toNat) 4) else 3) else 2) else 1) else 0
theorem c_findError {F L : Nat} {s : Nat → Int} (hF : 5000 ≤ F) (T : tx_ok L s) : sh_X1_findError F (L : Int) s = some (tx_err L s) := by
  have h0 := sg_rng T 0
  have e0 : sh_X1_sign F (L : Int) s (0 : Int) = some (sg_of L s 0) := c_sign T (j := 0) (by omega)
  have e1 : sh_X1_isDigit F (L : Int) s (1 : Int) 1 4 = _ := c_isDigit (F := F) T (j := 1) (by omega) (lo := 1) (hi := 4) (by decide) (by decide)
  have e2 : sh_X1_isDigit F (L : Int) s (2 : Int) 1 4 = _ := c_isDigit (F := F) T (j := 2) (by omega) (lo := 1) (hi := 4) (by decide) (by decide)
  have e3 : sh_X1_isDigit F (L : Int) s (3 : Int) 1 9 = _ := c_isDigit (F := F) T (j := 3) (by omega) (lo := 1) (hi := 9) (by decide) (by decide)
  have d1 : sh_X1_digit F (L : Int) s (1 : Int) = some (sg_of L s 1 - 48) := c_digit T (j := 1) (by omega)
  have d2 : sh_X1_digit F (L : Int) s (2 : Int) = some (sg_of L s 2 - 48) := c_digit T (j := 2) (by omega)
  unfold sh_X1_findError sh_X1_findHeadError tx_err
  rw [e0, Option.bind_some, zkr_t (by omega) (by omega)]
  by_cases c0 : sg_of L s 0 = 68
  · rw [if_pos c0, if_pos c0, e1, Option.bind_some]
    by_cases c1 : 1 ≤ sg_of L s 1 - 48 ∧ sg_of L s 1 - 48 ≤ 4
    · rw [if_pos c1, if_pos c1, zkr_t (by omega) (by omega), if_neg (by omega), e2, Option.bind_some]
      by_cases c2 : 1 ≤ sg_of L s 2 - 48 ∧ sg_of L s 2 - 48 ≤ 4
      · rw [if_pos c2, if_pos c2, zkr_t (by omega) (by omega), if_neg (by omega), e3, Option.bind_some]
        by_cases c3 : 1 ≤ sg_of L s 3 - 48 ∧ sg_of L s 3 - 48 ≤ 9
        · have l3 := sg_in (L := L) (s := s) (j := 3) (by omega)
          have hm : (sg_of L s 1 - 48) * (sg_of L s 2 - 48) = (((sg_of L s 1 - 48).toNat * (sg_of L s 2 - 48).toNat : Nat) : Int) := by
            rw [Int.natCast_mul, Int.toNat_of_nonneg (by omega), Int.toNat_of_nonneg (by omega)]
          have h16 : (sg_of L s 1 - 48).toNat * (sg_of L s 2 - 48).toNat ≤ 16 := Nat.mul_le_mul (by omega : (sg_of L s 1 - 48).toNat ≤ 4) (by omega : (sg_of L s 2 - 48).toNat ≤ 4)
          rw [if_pos c3, if_pos c3, zkr_t (by omega) (by omega), if_neg (by omega), Option.bind_some, zkr_t (by omega) (by omega), if_pos rfl, d1, Option.bind_some, d2, Option.bind_some]
          exact c_err_L (by omega) T hm h16 _ F 0 4 (by omega) (by omega) (by omega)
        · rw [if_neg c3, if_neg c3, zkr_t (by omega) (by omega), if_pos rfl, Option.bind_some, zkr_t (by omega) (by omega), if_neg (by omega)]
      · rw [if_neg c2, if_neg c2, zkr_t (by omega) (by omega), if_pos rfl, Option.bind_some, zkr_t (by omega) (by omega), if_neg (by omega)]
    · rw [if_neg c1, if_neg c1, zkr_t (by omega) (by omega), if_pos rfl, Option.bind_some, zkr_t (by omega) (by omega), if_neg (by omega)]
  · rw [if_neg c0, if_neg c0, Option.bind_some, zkr_t (by omega) (by omega), if_neg (by omega)]
