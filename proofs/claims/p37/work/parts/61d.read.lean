/-! HOW THE REFERENCE reads a text -/
theorem pc_cg {L : Nat} {s s' : Nat → Int} (h : ∀ j, sg_of L s j = sg_of L s' j) : ∀ (m at0 : Nat), pc L s m at0 = pc L s' m at0
  | 0, at0 => by rw [pc, pc, h]
  | m + 1, at0 => by rw [pc, pc, h, h, pc_cg h m]
theorem ps_cg {L : Nat} {s s' : Nat → Int} (h : ∀ j, sg_of L s j = sg_of L s' j) : ∀ (m at0 : Nat), ps L s m at0 = ps L s' m at0
  | 0, at0 => rfl
  | m + 1, at0 => by
    rw [ps, ps, pc_cg h]
    cases pc L s' 6 at0 with
    | inl e => rfl
    | inr r => dsimp only; rw [ps_cg h m]
theorem tx_cg {L : Nat} {s s' : Nat → Int} (h : ∀ j, sg_of L s j = sg_of L s' j) : tx_err L s = tx_err L s' := by
  unfold tx_err
  rw [h, h, h, h, ps_cg h]
theorem ml_snoc (f : Nat → Int) : ∀ (n o : Nat), ml_of f o (n + 1) = ml_of f o n ++ [(f (o + 2 * n), f (o + 2 * n + 1))]
  | 0, o => by rw [ml_of, ml_of, ml_of]; rfl
  | n + 1, o => by
    have h := ml_snoc f n (o + 2)
    rw [ml_of, h, ml_of, List.cons_append, show o + 2 + 2 * n = o + 2 * (n + 1) by omega]