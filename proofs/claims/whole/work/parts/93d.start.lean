/-! THE START: the first cave, and what the Statement gives of classes, texts, throws -/
theorem w_init8 : ∃ ro co ne nc ht dr, sh_X8_init 20000 = some (((2 * 2 : Nat) : Int), ro, co, ne, nc, 2, 0, 0, 0, ht, dr) ∧ gz_ok 2 2 ((2 * 2 : Nat) : Int) ro co ne nc ∧ Rc (2 * 2) (fun _ => 0) (fun _ => 0) ht dr 2 0 0 0 (ab_new [] 2) := by
  obtain ⟨ro, co, ne, nc, e1, G⟩ := c_shape (F := 20000) (h := 2) (w := 2) (by omega) (by omega) (by omega) (fun _ => 0) (fun _ => 0) (fun _ => 0) (fun _ => 0)
  obtain ⟨ht, e2, f2⟩ := c_fill (F := 20000) (n := 16) (v := 0) (by omega) (by omega) (fun _ => 0)
  have e1' : sh_X2_shape 20000 (fun _ => 0) (fun _ => 0) (fun _ => 0) (fun _ => 0) (2 : Int) (2 : Int) = some (((2 * 2 : Nat) : Int), ro, co, ne, nc) := e1
  refine ⟨ro, co, ne, nc, ht, ht, ?_, G, fun p hp => ?_, ⟨by decide, by decide⟩, rfl, rfl, rfl⟩
  · unfold sh_X8_init sh_X2_init sh_X0_init sh_X1_init sh_X4_init sh_X7_init sh_X6_init sh_X3_init sh_X0_clear
    rw [Option.bind_some, Option.bind_some, Option.bind_some, Option.bind_some, Option.bind_some, Option.bind_some, Option.bind_some, Option.bind_some, Option.bind_some, e1', Option.bind_some, e2, Option.bind_some, Option.bind_some, Option.bind_some]
  · have h0 := f2 p (by omega)
    rw [h0]
    exact ⟨⟨by decide, by decide⟩, rfl, rfl, Nat.zero_testBit p⟩
theorem w_init9 : Rm (2 * 2) 0 (va_up (fun _ => 0) 240 2) (ab_new [] 2) := by
  refine ⟨fun p hp => ?_, rfl, rfl, rfl⟩
  rw [Nat.zero_add, up_n _ _ _ (show 15 * p + 2 ≠ 240 by omega), up_n _ _ _ (show 15 * p ≠ 240 by omega), up_n _ _ _ (show 15 * p + 1 ≠ 240 by omega)]
  exact ⟨⟨by decide, by decide⟩, rfl, rfl, rfl⟩
theorem w_rel : ∃ ro co ne nc ht dr, sh_X8_init 20000 = some (((2 * 2 : Nat) : Int), ro, co, ne, nc, 2, 0, 0, 0, ht, dr) ∧ wREL 0 ((2 * 2 : Nat) : Int) ro co ne nc 2 0 0 0 (fun _ => 0) (fun _ => 0) ht dr 0 (fun _ => 0) 0 0 (fun _ => 0) 2 2 0 0 0 (va_up (fun _ => 0) 240 2) (fun _ => 0) (fun _ => 0) (fun _ => 0) (fun _ => 0) (fun _ => zC0) := by
  obtain ⟨ro, co, ne, nc, ht, dr, e, G, R⟩ := w_init8
  refine ⟨ro, co, ne, nc, ht, dr, e, 2, 2, 0, 0, 0, ab_new [] 2, rfl, rfl, rfl, rfl, rfl, rfl, G, R, w_init9, ab_new_wf (fun l hl => by cases hl) (by omega) (Int.le_refl _), zHR.zero (by omega), fun s hs => ⟨rfl, Or.inl rfl⟩, ⟨0, rfl, rfl, by omega, fun j hj => absurd hj (Nat.not_lt_zero _)⟩⟩

theorem w_str : ∀ q ∈ zStr, Cond.stringRef RX8 q.1 q.2 ∈ lw_tbl := by decide +kernel
theorem w_cast : ∀ E ∈ zEx, Cond.castable E E ∈ lw_tbl := by decide +kernel
theorem w_decl : ∀ x ∈ zDc, Cond.declares x ∈ lw_tbl := by decide +kernel
theorem w_nest : ∀ q ∈ zNest, Cond.methodLinkNest q.1 q.2.1 q.2.2.1 q.2.2.2 ∈ lw_tbl := by decide +kernel
theorem w_over : Cond.arrayOver (.object "CaveDraw$Cave") ∈ lw_tbl := by decide +kernel
theorem w_aint : Cond.arrayClass .int ∈ lw_tbl := by decide +kernel
theorem w_achar : Cond.arrayClass .char ∈ lw_tbl := by decide +kernel
theorem w_abool : Cond.arrayClass .boolean ∈ lw_tbl := by decide +kernel
theorem w_along : Cond.arrayClass .long ∈ lw_tbl := by decide +kernel
theorem w_ls1 : Cond.laysStatic Bundle.tN "UNASSIGNED_STACK" Bundle.steD ∈ lw_tbl := by decide +kernel
theorem w_ls2 : Cond.laysStatic Bundle.tN "SUPPRESSED_SENTINEL" Bundle.listD ∈ lw_tbl := by decide +kernel
theorem w_lsi : Cond.initialized Bundle.tN ∈ lw_tbl := by decide +kernel
theorem w_i0 : Cond.instantiable RX0 8 ∈ lw_tbl := by decide +kernel
theorem w_i1 : Cond.instantiable RX1 2 ∈ lw_tbl := by decide +kernel
theorem w_i2 : Cond.instantiable RX2 5 ∈ lw_tbl := by decide +kernel
theorem w_i3 : Cond.instantiable RX3 2 ∈ lw_tbl := by decide +kernel
theorem w_i4 : Cond.instantiable RX4 3 ∈ lw_tbl := by decide +kernel
theorem w_i5 : Cond.instantiable RX6 9 ∈ lw_tbl := by decide +kernel
theorem w_i6 : Cond.instantiable RX7 2 ∈ lw_tbl := by decide +kernel
theorem w_i7 : Cond.instantiable RX8 9 ∈ lw_tbl := by decide +kernel
theorem w_i8 : Cond.instantiable RX9 20 ∈ lw_tbl := by decide +kernel
theorem w_K {s : State} {b : Nat} (hts : ∀ w ∈ lw_tbl, w.before #[Value.ref b] s = true) : ∃ (D : va_G) (J : Nat → ClassId), va_K D vwCl (zT J) s := by
  obtain ⟨c0, i0, k0⟩ := u_known (C := RX0) (T := TX0) (N := 8) (n := 8) hts inX0 (hts _ w_i0)
  obtain ⟨c1, i1, k1⟩ := u_known (C := RX1) (T := TX1) (N := 2) (n := 2) hts inX1 (hts _ w_i1)
  obtain ⟨c2, i2, k2⟩ := u_known (C := RX2) (T := TX2) (N := 5) (n := 5) hts inX2 (hts _ w_i2)
  obtain ⟨c3, i3, k3⟩ := u_known (C := RX3) (T := TX3) (N := 2) (n := 2) hts inX3 (hts _ w_i3)
  obtain ⟨c4, i4, k4⟩ := u_known (C := RX4) (T := TX4) (N := 3) (n := 3) hts inX4 (hts _ w_i4)
  obtain ⟨c5, i5, k5⟩ := u_known (C := RX6) (T := TX6) (N := 9) (n := 9) hts inX6 (hts _ w_i5)
  obtain ⟨c6, i6, k6⟩ := u_known (C := RX7) (T := TX7) (N := 2) (n := 2) hts inX7 (hts _ w_i6)
  obtain ⟨c7, i7, k7⟩ := u_known (C := RX8) (T := TX8) (N := 9) (n := 9) hts inX8 (hts _ w_i7)
  obtain ⟨c8, i8, k8⟩ := u_known (C := RX9) (T := TX9) (N := 20) (n := 20) hts inX9 (hts _ w_i8)
  obtain ⟨j0, a0, p0, f0, g0, h0⟩ := Cond.arrayClass_spec (hts _ w_aint)
  obtain ⟨j1, a1, p1, f1, g1, h1⟩ := Cond.arrayClass_spec (hts _ w_achar)
  obtain ⟨j2, a2, p2, f2, g2, h2⟩ := Cond.arrayClass_spec (hts _ w_abool)
  obtain ⟨j3, a3, p3, f3, g3, h3⟩ := Cond.arrayClass_spec (hts _ w_along)
  obtain ⟨p4, j4, a4, f4, -, g4, h4, q4⟩ := Cond.arrayOver_spec (hts _ w_over)
  refine ⟨(fun k => if k = 0 then c0 else if k = 1 then c1 else if k = 2 then c2 else if k = 3 then c3 else if k = 4 then c4 else if k = 5 then c5 else if k = 6 then c6 else if k = 7 then c7 else c8, fun k => if k = 0 then i0 else if k = 1 then i1 else if k = 2 then i2 else if k = 3 then i3 else if k = 4 then i4 else if k = 5 then i5 else if k = 6 then i6 else if k = 7 then i7 else i8), fun k => if k = 0 then j0 else if k = 1 then j1 else if k = 2 then j2 else if k = 3 then j3 else j4, fun k q hq => ?_, fun k q hq => ?_⟩
  · match k, hq with
    | 0, hq => cases hq; exact k0
    | 1, hq => cases hq; exact k1
    | 2, hq => cases hq; exact k2
    | 3, hq => cases hq; exact k3
    | 4, hq => cases hq; exact k4
    | 5, hq => cases hq; exact k5
    | 6, hq => cases hq; exact k6
    | 7, hq => cases hq; exact k7
    | 8, hq => cases hq; exact k8
    | k + 9, hq => simp [vwCl] at hq
  · match k, hq with
    | 0, hq => cases hq; exact ⟨fun N z => ⟨(fun k h => by cases h), a0, g0, p0, h0⟩, f0⟩
    | 1, hq => cases hq; exact ⟨fun N z => ⟨(fun k h => by cases h), a1, g1, p1, h1⟩, f1⟩
    | 2, hq => cases hq; exact ⟨fun N z => ⟨(fun k h => by cases h), a2, g2, p2, h2⟩, f2⟩
    | 3, hq => cases hq; exact ⟨fun N z => ⟨(fun k h => by cases h), a3, g3, p3, h3⟩, f3⟩
    | 4, hq => cases hq; exact ⟨fun N z => ⟨(fun k h => by cases h), a4, g4, p4, h4⟩, ⟨a4, p4, g4, h4, f4, q4⟩⟩
    | k + 5, hq => simp [zT] at hq
theorem w_nc {s : State} {b : Nat} (hgv : (Jvm.Cond.and given_1 narrow_1).before #[Value.ref b] s = true) : ∀ E ∈ zEx, ∀ E' ∈ zEx, E ≠ E' → va_Nc E E' s := by
  have hs := flat_of_before _ hgv
  have a1 : (Cond.not (.castable "java/lang/IndexOutOfBoundsException" "java/lang/IllegalArgumentException")).before #[Value.ref b] s = true := hs _ (by decide +kernel)
  have a2 : (Cond.not (.castable "java/lang/IndexOutOfBoundsException" "java/lang/IllegalStateException")).before #[Value.ref b] s = true := hs _ (by decide +kernel)
  have a3 : (Cond.not (.castable "java/lang/IllegalArgumentException" "java/lang/IndexOutOfBoundsException")).before #[Value.ref b] s = true := hs _ (by decide +kernel)
  have a4 : (Cond.not (.castable "java/lang/IllegalArgumentException" "java/lang/IllegalStateException")).before #[Value.ref b] s = true := hs _ (by decide +kernel)
  have a5 : (Cond.not (.castable "java/lang/IllegalStateException" "java/lang/IndexOutOfBoundsException")).before #[Value.ref b] s = true := hs _ (by decide +kernel)
  have a6 : (Cond.not (.castable "java/lang/IllegalStateException" "java/lang/IllegalArgumentException")).before #[Value.ref b] s = true := hs _ (by decide +kernel)
  have cs : ∀ E : String, E ∈ zEx → E = "java/lang/IndexOutOfBoundsException" ∨ E = "java/lang/IllegalArgumentException" ∨ E = "java/lang/IllegalStateException" := fun E h => by
    rcases List.mem_cons.mp h with h | h
    · exact Or.inl h
    · rcases List.mem_cons.mp h with h | h
      · exact Or.inr (Or.inl h)
      · exact Or.inr (Or.inr (List.mem_singleton.mp h))
  intro E hE E' hE' hne
  rcases cs E hE with rfl | rfl | rfl <;> rcases cs E' hE' with rfl | rfl | rfl
  · exact absurd rfl hne
  · exact va_Nc.of a1
  · exact va_Nc.of a2
  · exact va_Nc.of a3
  · exact absurd rfl hne
  · exact va_Nc.of a4
  · exact va_Nc.of a5
  · exact va_Nc.of a6
  · exact absurd rfl hne
theorem w_G {s : State} {b : Nat} (hts : ∀ w ∈ lw_tbl, w.before #[Value.ref b] s = true) (hgv : (Jvm.Cond.and given_1 narrow_1).before #[Value.ref b] s = true) : ∃ (D : va_G) (J : Nat → ClassId), zG D J s := by
  obtain ⟨D, J, hK⟩ := w_K hts
  obtain ⟨cC, kC, hfc, -⟩ := Cond.instantiable_spec (hts _ w_i7)
  refine ⟨D, J, hK, va_AO.of (hts _ w_over), fun q hq => ?_, fun E hE => va_Nw.of rfl (hts _ (w_cast E hE)), w_nc hgv, fun x hx => va_Nw.of rfl (hts _ (w_decl x hx)), fun q hq => va_Nw.of rfl (hts _ (w_nest q hq))⟩
  have hw := hts _ (w_str q hq)
  obtain ⟨k, cf, i, a, -, -, -, -, -, he⟩ := Cond.stringRef_spec hfc hw
  exact ⟨a, vk_R.of hw he⟩
theorem w_H {s : State} {b : Nat} (hts : ∀ w ∈ lw_tbl, w.before #[Value.ref b] s = true) (hgv : (Jvm.Cond.and given_1 narrow_1).before #[Value.ref b] s = true) : zH (fun q : Nat => s.heap.size ≤ q) s s.heap := by
  have hs := flat_of_before _ hgv
  exact ⟨vx_Zqof (hts _ w_ls1) (hts _ w_lsi) (hs _ (by decide +kernel)) (fun a h => Nat.not_le.mpr h), vx_Zqof (hts _ w_ls2) (hts _ w_lsi) (hs _ (by decide +kernel)) (fun a h => Nat.not_le.mpr h)⟩
