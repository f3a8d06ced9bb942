/-! BITS: sets of points as whole numbers -/
theorem bi_nI (x : Nat) : zi (x : Int) = nI x := Int32.ofInt_eq_ofNat
theorem bi_and {x y : Nat} (hx : x < 2 ^ 31) : zand (x : Int) (y : Int) = ((x &&& y : Nat) : Int) := by
  unfold zand
  rw [bi_nI, bi_nI]
  have e : nI x &&& nI y = nI (x &&& y) := by
    apply Int32.toBitVec_inj.mp
    show BitVec.ofNat 32 x &&& BitVec.ofNat 32 y = BitVec.ofNat 32 (x &&& y)
    exact BitVec.ofNat_and.symm
  rw [e, nI_toInt (Nat.lt_of_le_of_lt Nat.and_le_left hx)]
theorem bi_or {x y : Nat} (hx : x < 2 ^ 31) (hy : y < 2 ^ 31) : zor (x : Int) (y : Int) = ((x ||| y : Nat) : Int) := by
  unfold zor
  rw [bi_nI, bi_nI]
  have e : nI x ||| nI y = nI (x ||| y) := by
    apply Int32.toBitVec_inj.mp
    show BitVec.ofNat 32 x ||| BitVec.ofNat 32 y = BitVec.ofNat 32 (x ||| y)
    exact BitVec.ofNat_or.symm
  rw [e, nI_toInt (Nat.or_lt_two_pow hx hy)]
theorem bi_xor {x y : Nat} (hx : x < 2 ^ 31) (hy : y < 2 ^ 31) : zxor (x : Int) (y : Int) = ((x ^^^ y : Nat) : Int) := by
  unfold zxor
  rw [bi_nI, bi_nI]
  have e : nI x ^^^ nI y = nI (x ^^^ y) := by
    apply Int32.toBitVec_inj.mp
    show BitVec.ofNat 32 x ^^^ BitVec.ofNat 32 y = BitVec.ofNat 32 (x ^^^ y)
    exact BitVec.ofNat_xor.symm
  rw [e, nI_toInt (Nat.xor_lt_two_pow hx hy)]
theorem bi_shl : ∀ p : Nat, p < 16 → zshl (1 : Int) (p : Int) = ((2 ^ p : Nat) : Int) := by decide +kernel
theorem bi_p31 {p : Nat} (hp : p < 16) : 2 ^ p < 2 ^ 31 := Nat.pow_lt_pow_right (by decide) (by omega)
theorem bi_test {x p : Nat} : (x &&& 2 ^ p = 0) ↔ x.testBit p = false := by
  constructor
  · intro h
    have e : (x &&& 2 ^ p).testBit p = false := by rw [h]; exact Nat.zero_testBit p
    rw [Nat.testBit_and, Nat.testBit_two_pow_self, Bool.and_true] at e
    exact e
  · intro h
    apply Nat.eq_of_testBit_eq
    intro i
    rw [Nat.testBit_and, Nat.testBit_two_pow, Nat.zero_testBit]
    by_cases hi : p = i
    · rw [← hi, h]; rfl
    · rw [decide_eq_false hi, Bool.and_false]
theorem c_hangs (F x p : Nat) (hx : x < 2 ^ 16) (hp : p < 16) : sh_X0_hangs F (x : Int) (p : Int) = some (if x.testBit p then 1 else 0) := by
  have h31 : x < 2 ^ 31 := Nat.lt_of_lt_of_le hx (by decide)
  have hle : x &&& 2 ^ p ≤ x := Nat.and_le_left
  have hx2 : x < 65536 := hx
  unfold sh_X0_hangs
  rw [bi_shl p hp, bi_and h31, zkr_t (by omega) (by omega)]
  by_cases h : x.testBit p = true
  · have hb : ¬ (x &&& 2 ^ p = 0) := fun z => by rw [bi_test.mp z] at h; cases h
    rw [if_neg (by omega), if_pos h]
  · have hb : x &&& 2 ^ p = 0 := bi_test.mpr (by revert h; cases x.testBit p <;> simp)
    rw [if_pos (by omega), if_neg h]
theorem c_turnHung (F x p : Nat) (hx : x < 2 ^ 16) (hp : p < 16) : sh_X0_turnHung F (x : Int) (p : Int) = some ((x ^^^ 2 ^ p : Nat) : Int) := by
  unfold sh_X0_turnHung
  rw [bi_shl p hp, bi_xor (Nat.lt_of_lt_of_le hx (by decide)) (bi_p31 hp)]
theorem bi_flip (x p q : Nat) : (x ^^^ 2 ^ p).testBit q = (if q = p then !(x.testBit q) else x.testBit q) := by
  rw [Nat.testBit_xor, Nat.testBit_two_pow]
  by_cases h : q = p
  · rw [if_pos h, decide_eq_true h.symm]; cases x.testBit q <;> rfl
  · rw [if_neg h, decide_eq_false (fun z => h z.symm)]; cases x.testBit q <;> rfl
/-- how many of the first n bits are set -/
def bi_cnt (x : Nat) : Nat → Int
  | 0 => 0
  | n + 1 => bi_cnt x n + (if x.testBit n then 1 else 0)
def bi_chk (f : Nat → Bool) : Nat → Nat → Bool
  | 0, o => f o
  | k + 1, o => bi_chk f k o && bi_chk f k (o + 2 ^ k)
theorem bi_chk_ok (f : Nat → Bool) : ∀ (k o : Nat), bi_chk f k o = true → ∀ x, o ≤ x → x < o + 2 ^ k → f x = true
  | 0, o, h, x, h1, h2 => by
    have : x = o := by have : 2 ^ 0 = 1 := rfl; omega
    subst this; exact h
  | k + 1, o, h, x, h1, h2 => by
    rw [bi_chk, Bool.and_eq_true] at h
    have e : 2 ^ (k + 1) = 2 ^ k + 2 ^ k := by rw [Nat.pow_succ]; omega
    by_cases hc : x < o + 2 ^ k
    · exact bi_chk_ok f k o h.1 x h1 hc
    · exact bi_chk_ok f k (o + 2 ^ k) h.2 x (by omega) (by omega)
