/-! COUNTING the hung points -/
theorem bi_ushr (n k : Nat) (s : Int) (hn : n < 2 ^ 31) (hs : (((zi s).toUInt32 &&& Int32.toUInt32 31).toBitVec % 32).toNat = k) : zushr (n : Int) s = ((n / 2 ^ k : Nat) : Int) := by
  unfold zushr
  rw [bi_nI, pk_ushrN (Nat.lt_trans hn (by decide)) (zi s) k hs, nI_toInt (Nat.lt_of_le_of_lt (Nat.div_le_self _ _) hn)]
def bi_s1 (x : Nat) : Nat := x - ((x / 2) &&& 1431655765)
def bi_s2 (x : Nat) : Nat := (x &&& 858993459) + ((x / 4) &&& 858993459)
def bi_s3 (x : Nat) : Nat := (x + x / 16) &&& 252645135
def bi_s4 (x : Nat) : Nat := x + x / 256
def bi_s5 (x : Nat) : Nat := x + x / 65536
def bi_pn (x : Nat) : Nat := bi_s5 (bi_s4 (bi_s3 (bi_s2 (bi_s1 x)))) &&& 63
theorem bi_e1 {x : Nat} (hx : x < 2 ^ 20) : ((x : Int) - (zand (zushr (x : Int) (1 : Int)) (1431655765 : Int))) = ((bi_s1 x : Nat) : Int) ∧ bi_s1 x < 2 ^ 20 := by
  have h : zand (zushr (x : Int) (1 : Int)) (1431655765 : Int) = (((x / 2) &&& 1431655765 : Nat) : Int) := by
    rw [bi_ushr x 1 1 (by omega) (by decide)]
    exact bi_and (y := 1431655765) (by omega)
  have hle : (x / 2) &&& 1431655765 ≤ x / 2 := Nat.and_le_left
  rw [h]
  unfold bi_s1
  omega
theorem bi_e2 {x : Nat} (hx : x < 2 ^ 20) : ((zand (x : Int) (858993459 : Int)) + (zand (zushr (x : Int) (2 : Int)) (858993459 : Int))) = ((bi_s2 x : Nat) : Int) ∧ bi_s2 x < 2 ^ 21 := by
  have h : zand (zushr (x : Int) (2 : Int)) (858993459 : Int) = (((x / 4) &&& 858993459 : Nat) : Int) := by
    rw [bi_ushr x 2 2 (by omega) (by decide)]
    exact bi_and (y := 858993459) (by omega)
  have h' : zand (x : Int) (858993459 : Int) = ((x &&& 858993459 : Nat) : Int) := bi_and (y := 858993459) (by omega)
  have hle : (x / 4) &&& 858993459 ≤ x / 4 := Nat.and_le_left
  have hle' : x &&& 858993459 ≤ x := Nat.and_le_left
  rw [h, h']
  unfold bi_s2
  omega
theorem bi_e3 {x : Nat} (hx : x < 2 ^ 21) : zand ((x : Int) + (zushr (x : Int) (4 : Int))) (252645135 : Int) = ((bi_s3 x : Nat) : Int) ∧ bi_s3 x < 2 ^ 22 := by
  have h : zand ((x : Int) + (zushr (x : Int) (4 : Int))) (252645135 : Int) = (((x + x / 16) &&& 252645135 : Nat) : Int) := by
    rw [bi_ushr x 4 4 (by omega) (by decide)]
    exact bi_and (x := x + x / 16) (y := 252645135) (by omega)
  have hle : (x + x / 16) &&& 252645135 ≤ x + x / 16 := Nat.and_le_left
  rw [h]
  unfold bi_s3
  omega
theorem bi_e4 {x : Nat} (hx : x < 2 ^ 22) : ((x : Int) + (zushr (x : Int) (8 : Int))) = ((bi_s4 x : Nat) : Int) ∧ bi_s4 x < 2 ^ 23 := by
  rw [bi_ushr x 8 8 (by omega) (by decide)]
  unfold bi_s4
  omega
theorem bi_e5 {x : Nat} (hx : x < 2 ^ 23) : ((x : Int) + (zushr (x : Int) (16 : Int))) = ((bi_s5 x : Nat) : Int) ∧ bi_s5 x < 2 ^ 24 := by
  rw [bi_ushr x 16 16 (by omega) (by decide)]
  unfold bi_s5
  omega
theorem bi_popn (F : Nat) {x : Nat} (hx : x < 2 ^ 16) : sh_J6_bitCount_0f7a4 F (x : Int) = some ((bi_pn x : Nat) : Int) := by
  obtain ⟨e1, h1⟩ := bi_e1 (x := x) (by omega)
  obtain ⟨e2, h2⟩ := bi_e2 h1
  obtain ⟨e3, h3⟩ := bi_e3 h2
  obtain ⟨e4, h4⟩ := bi_e4 h3
  obtain ⟨e5, h5⟩ := bi_e5 h4
  have e6 : zand ((bi_s5 (bi_s4 (bi_s3 (bi_s2 (bi_s1 x)))) : Nat) : Int) (63 : Int) = ((bi_pn x : Nat) : Int) := bi_and (y := 63) (by omega)
  unfold sh_J6_bitCount_0f7a4
  rw [e1, e2, e3, e4, e5, e6]
def bi_cn (x : Nat) : Nat → Nat
  | 0 => 0
  | n + 1 => bi_cn x n + (if x.testBit n then 1 else 0)
def bi_f1 (x : Nat) : Nat := Nat.sub x (Nat.land (Nat.div x 2) 1431655765)
def bi_f2 (x : Nat) : Nat := Nat.add (Nat.land x 858993459) (Nat.land (Nat.div x 4) 858993459)
def bi_f3 (x : Nat) : Nat := Nat.land (Nat.add x (Nat.div x 16)) 252645135
def bi_f4 (x : Nat) : Nat := Nat.add x (Nat.div x 256)
def bi_f5 (x : Nat) : Nat := Nat.add x (Nat.div x 65536)
def bi_fn (x : Nat) : Nat := Nat.land (bi_f5 (bi_f4 (bi_f3 (bi_f2 (bi_f1 x))))) 63
theorem bi_fn_pn (x : Nat) : bi_fn x = bi_pn x := rfl
def bi_rc (x : Nat) : Bool := Nat.beq (bi_fn x) (Nat.add (bi_fn (Nat.div x 2)) (Nat.mod x 2))
theorem bi_a0 : bi_chk bi_rc 12 0 = true := by decide +kernel
theorem bi_a1 : bi_chk bi_rc 12 4096 = true := by decide +kernel
theorem bi_a2 : bi_chk bi_rc 12 8192 = true := by decide +kernel
theorem bi_a3 : bi_chk bi_rc 12 12288 = true := by decide +kernel
theorem bi_a4 : bi_chk bi_rc 12 16384 = true := by decide +kernel
theorem bi_a5 : bi_chk bi_rc 12 20480 = true := by decide +kernel
theorem bi_a6 : bi_chk bi_rc 12 24576 = true := by decide +kernel
theorem bi_a7 : bi_chk bi_rc 12 28672 = true := by decide +kernel
theorem bi_a8 : bi_chk bi_rc 12 32768 = true := by decide +kernel
theorem bi_a9 : bi_chk bi_rc 12 36864 = true := by decide +kernel
theorem bi_a10 : bi_chk bi_rc 12 40960 = true := by decide +kernel
theorem bi_a11 : bi_chk bi_rc 12 45056 = true := by decide +kernel
theorem bi_a12 : bi_chk bi_rc 12 49152 = true := by decide +kernel
theorem bi_a13 : bi_chk bi_rc 12 53248 = true := by decide +kernel
theorem bi_a14 : bi_chk bi_rc 12 57344 = true := by decide +kernel
theorem bi_a15 : bi_chk bi_rc 12 61440 = true := by decide +kernel
theorem bi_rec {x : Nat} (hx : x < 65536) : bi_pn x = bi_pn (x / 2) + x % 2 := by
  have h : bi_rc x = true := by
    by_cases c0 : x < 4096
    · exact bi_chk_ok bi_rc 12 0 bi_a0 x (by omega) (by omega)
    by_cases c1 : x < 8192
    · exact bi_chk_ok bi_rc 12 4096 bi_a1 x (by omega) (by omega)
    by_cases c2 : x < 12288
    · exact bi_chk_ok bi_rc 12 8192 bi_a2 x (by omega) (by omega)
    by_cases c3 : x < 16384
    · exact bi_chk_ok bi_rc 12 12288 bi_a3 x (by omega) (by omega)
    by_cases c4 : x < 20480
    · exact bi_chk_ok bi_rc 12 16384 bi_a4 x (by omega) (by omega)
    by_cases c5 : x < 24576
    · exact bi_chk_ok bi_rc 12 20480 bi_a5 x (by omega) (by omega)
    by_cases c6 : x < 28672
    · exact bi_chk_ok bi_rc 12 24576 bi_a6 x (by omega) (by omega)
    by_cases c7 : x < 32768
    · exact bi_chk_ok bi_rc 12 28672 bi_a7 x (by omega) (by omega)
    by_cases c8 : x < 36864
    · exact bi_chk_ok bi_rc 12 32768 bi_a8 x (by omega) (by omega)
    by_cases c9 : x < 40960
    · exact bi_chk_ok bi_rc 12 36864 bi_a9 x (by omega) (by omega)
    by_cases c10 : x < 45056
    · exact bi_chk_ok bi_rc 12 40960 bi_a10 x (by omega) (by omega)
    by_cases c11 : x < 49152
    · exact bi_chk_ok bi_rc 12 45056 bi_a11 x (by omega) (by omega)
    by_cases c12 : x < 53248
    · exact bi_chk_ok bi_rc 12 49152 bi_a12 x (by omega) (by omega)
    by_cases c13 : x < 57344
    · exact bi_chk_ok bi_rc 12 53248 bi_a13 x (by omega) (by omega)
    by_cases c14 : x < 61440
    · exact bi_chk_ok bi_rc 12 57344 bi_a14 x (by omega) (by omega)
    exact bi_chk_ok bi_rc 12 61440 bi_a15 x (by omega) (by omega)
  exact Nat.eq_of_beq_eq_true h
theorem bi_cn_s (x : Nat) : ∀ n, bi_cn x (n + 1) = bi_cn (x / 2) n + x % 2
  | 0 => by
    rw [bi_cn, bi_cn, bi_cn, Nat.testBit_zero]
    have := Nat.mod_two_eq_zero_or_one x
    rcases this with t | t <;> rw [t] <;> rfl
  | n + 1 => by
    rw [bi_cn, bi_cn_s x n, bi_cn, Nat.testBit_succ]
    omega
theorem bi_pc : ∀ n, n ≤ 16 → ∀ x, x < 2 ^ n → bi_pn x = bi_cn x n
  | 0, _, x, hx => by
    have : x = 0 := by have : 2 ^ 0 = 1 := rfl; omega
    subst this; rfl
  | n + 1, hn, x, hx => by
    have e : 2 ^ (n + 1) = 2 ^ n * 2 := Nat.pow_succ _ _
    have e16 : 2 ^ (n + 1) ≤ 2 ^ 16 := Nat.pow_le_pow_right (by decide) hn
    rw [bi_rec (by omega), bi_cn_s, bi_pc n (by omega) (x / 2) (by omega)]
theorem bi_pop {F x : Nat} (hx : x < 2 ^ 16) : sh_J6_bitCount_0f7a4 F (x : Int) = some ((bi_cn x 16 : Nat) : Int) := by
  rw [bi_popn F hx, bi_pc 16 (Nat.le_refl _) x hx]
theorem bi_cn_hi {x n : Nat} (hx : x < 2 ^ n) : ∀ m, bi_cn x (n + m) = bi_cn x n
  | 0 => rfl
  | m + 1 => by
    have : x.testBit (n + m) = false := Nat.testBit_lt_two_pow (Nat.lt_of_lt_of_le hx (Nat.pow_le_pow_right (by decide) (by omega)))
    rw [Nat.add_succ, bi_cn, bi_cn_hi hx m, this]
    rfl
def ab_hcnt (a : zAb) : Nat → Int
  | 0 => 0
  | n + 1 => ab_hcnt a n + (if ab_hg a n then 1 else 0)
theorem ab_hcnt_rng (a : zAb) : ∀ n, 0 ≤ ab_hcnt a n ∧ ab_hcnt a n ≤ n
  | 0 => ⟨Int.le_refl _, Int.le_refl _⟩
  | n + 1 => by
    have := ab_hcnt_rng a n
    rw [ab_hcnt]
    split <;> omega
theorem bi_cn_hc {x : Nat} {a : zAb} : ∀ n, (∀ p, p < n → x.testBit p = ab_hg a p) → ((bi_cn x n : Nat) : Int) = ab_hcnt a n
  | 0, _ => rfl
  | n + 1, h => by
    have h1 := bi_cn_hc (x := x) (a := a) n (fun p hp => h p (by omega))
    rw [bi_cn, ab_hcnt, h n (by omega), ← h1]
    split <;> rfl
theorem Rc.hcount {F n : Nat} {bk gr ht dr : Nat → Int} {lim hs bs gs : Int} {a : zAb} (R : Rc n bk gr ht dr lim hs bs gs a) (hn : n ≤ 16) : sh_X0_hungCount F hs = some (ab_hcnt a n) := by
  have h1 := R.2.1
  have h16 : hs.toNat < 2 ^ 16 := Nat.lt_of_lt_of_le h1.2 (Nat.pow_le_pow_right (by decide) hn)
  unfold sh_X0_hungCount
  rw [show hs = ((hs.toNat : Nat) : Int) by omega, bi_pop h16, Option.bind_some]
  refine congrArg some ?_
  rw [← bi_cn_hc n (fun p hp => (R.1 p hp).2.2.2)]
  have := bi_cn_hi h1.2 (16 - n)
  rw [show n + (16 - n) = 16 by omega] at this
  rw [this]