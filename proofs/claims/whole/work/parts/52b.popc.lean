def bi_pop (x : Nat) : Bool := match sh_J6_bitCount_0f7a4 0 (x : Int) with
  | some v => v == bi_cnt x 16
  | none => false
theorem bi_all0 : bi_chk bi_pop 12 0 = true := by decide +kernel
