/-! WHAT THE STATEMENT GIVES of classes, texts, throws, the string, the statics -/
theorem w_str : ∀ q ∈ zStr, Cond.stringRef RX8 q.1 q.2 ∈ lw_tbl := by decide +kernel
theorem w_cast : ∀ E ∈ zEx, Cond.castable E E ∈ lw_tbl := by decide +kernel
theorem w_decl : ∀ x ∈ zDc, Cond.declares x ∈ lw_tbl := by decide +kernel
theorem w_nest : ∀ q ∈ zNest, Cond.methodLinkNest q.1 q.2.1 q.2.2.1 q.2.2.2 ∈ lw_tbl := by decide +kernel
theorem w_over : Cond.arrayOver (.object "CaveDraw$Cave") ∈ lw_tbl := by decide +kernel
theorem w_aint : Cond.arrayClass .int ∈ lw_tbl := by decide +kernel
theorem w_achar : Cond.arrayClass .char ∈ lw_tbl := by decide +kernel
theorem w_abool : Cond.arrayClass .boolean ∈ lw_tbl := by decide +kernel
theorem w_ls1 : Cond.laysStatic Bundle.tN "UNASSIGNED_STACK" Bundle.steD ∈ lw_tbl := by decide +kernel
theorem w_ls2 : Cond.laysStatic Bundle.tN "SUPPRESSED_SENTINEL" Bundle.listD ∈ lw_tbl := by decide +kernel
theorem w_lsi : Cond.initialized Bundle.tN ∈ lw_tbl := by decide +kernel
theorem w_i0 : Cond.instantiable RX0 8 ∈ lw_tbl := by decide +kernel
theorem w_i1 : Cond.instantiable RX1 2 ∈ lw_tbl := by decide +kernel
theorem w_i2 : Cond.instantiable RX2 5 ∈ lw_tbl := by decide +kernel
theorem w_i3 : Cond.instantiable RX3 2 ∈ lw_tbl := by decide +kernel
theorem w_i4 : Cond.instantiable RX4 3 ∈ lw_tbl := by decide +kernel
theorem w_i5 : Cond.instantiable RX6 9 ∈ lw_tbl := by decide +kernel
theorem w_i6 : Cond.instantiable RX7 2 ∈ lw_tbl := by decide +kernel
theorem w_i7 : Cond.instantiable RX8 9 ∈ lw_tbl := by decide +kernel
theorem w_strL : Cond.stringRef RL 184 "D;10x5" ∈ lw_tbl := by decide +kernel
theorem w_lsc : Cond.laysStatic "java/lang/String" "COMPACT_STRINGS" "Z" ∈ lw_tbl := by decide +kernel
theorem w_lscI : Cond.initialized "java/lang/String" ∈ lw_tbl := by decide +kernel
theorem w_lsp : Cond.laysStatic "jdk/internal/util/Preconditions" "SIOOBE_FORMATTER" "Ljava/util/function/BiFunction;" ∈ lw_tbl := by decide +kernel
theorem w_lspI : Cond.initialized "jdk/internal/util/Preconditions" ∈ lw_tbl := by decide +kernel
theorem w_K {s : State} {b : Nat} (b7 b8 b9 : Nat) (hts : ∀ w ∈ lw_tbl, w.before #[Value.ref b] s = true) : ∃ (D : va_G) (J : Nat → ClassId), va_K D vwCl (zT J) s ∧ J 7 = b7 ∧ J 8 = b8 ∧ J 9 = b9 := by
  obtain ⟨c0, i0, k0⟩ := u_known (C := RX0) (T := TX0) (N := 8) (n := 8) hts inX0 (hts _ w_i0)
  obtain ⟨c1, i1, k1⟩ := u_known (C := RX1) (T := TX1) (N := 2) (n := 2) hts inX1 (hts _ w_i1)
  obtain ⟨c2, i2, k2⟩ := u_known (C := RX2) (T := TX2) (N := 5) (n := 5) hts inX2 (hts _ w_i2)
  obtain ⟨c3, i3, k3⟩ := u_known (C := RX3) (T := TX3) (N := 2) (n := 2) hts inX3 (hts _ w_i3)
  obtain ⟨c4, i4, k4⟩ := u_known (C := RX4) (T := TX4) (N := 3) (n := 3) hts inX4 (hts _ w_i4)
  obtain ⟨c5, i5, k5⟩ := u_known (C := RX6) (T := TX6) (N := 9) (n := 9) hts inX6 (hts _ w_i5)
  obtain ⟨c6, i6, k6⟩ := u_known (C := RX7) (T := TX7) (N := 2) (n := 2) hts inX7 (hts _ w_i6)
  obtain ⟨c7, i7, k7⟩ := u_known (C := RX8) (T := TX8) (N := 9) (n := 9) hts inX8 (hts _ w_i7)
  obtain ⟨j0, a0, p0, f0, g0, h0⟩ := Cond.arrayClass_spec (hts _ w_aint)
  obtain ⟨j1, a1, p1, f1, g1, h1⟩ := Cond.arrayClass_spec (hts _ w_achar)
  obtain ⟨j2, a2, p2, f2, g2, h2⟩ := Cond.arrayClass_spec (hts _ w_abool)
  obtain ⟨p4, j4, a4, f4, -, g4, h4, q4⟩ := Cond.arrayOver_spec (hts _ w_over)
  refine ⟨(fun k => if k = 0 then c0 else if k = 1 then c1 else if k = 2 then c2 else if k = 3 then c3 else if k = 4 then c4 else if k = 5 then c5 else if k = 6 then c6 else c7, fun k => if k = 0 then i0 else if k = 1 then i1 else if k = 2 then i2 else if k = 3 then i3 else if k = 4 then i4 else if k = 5 then i5 else if k = 6 then i6 else i7), fun k => if k = 0 then j0 else if k = 1 then j1 else if k = 2 then j2 else if k = 3 then j0 else if k = 4 then j4 else if k = 7 then b7 else if k = 8 then b8 else b9, ⟨fun k q hq => ?_, fun k q hq => ?_⟩, rfl, rfl, rfl⟩
  · match k, hq with
    | 0, hq => cases hq; exact k0
    | 1, hq => cases hq; exact k1
    | 2, hq => cases hq; exact k2
    | 3, hq => cases hq; exact k3
    | 4, hq => cases hq; exact k4
    | 5, hq => cases hq; exact k5
    | 6, hq => cases hq; exact k6
    | 7, hq => cases hq; exact k7
    | k + 8, hq => simp [vwCl] at hq
  · match k, hq with
    | 0, hq => cases hq; exact ⟨fun N z => ⟨(fun k h => by cases h), a0, g0, p0, h0⟩, f0⟩
    | 1, hq => cases hq; exact ⟨fun N z => ⟨(fun k h => by cases h), a1, g1, p1, h1⟩, f1⟩
    | 2, hq => cases hq; exact ⟨fun N z => ⟨(fun k h => by cases h), a2, g2, p2, h2⟩, f2⟩
    | 3, hq => cases hq; exact ⟨fun N z => ⟨(fun k h => by cases h), a0, g0, p0, h0⟩, f0⟩
    | 4, hq => cases hq; exact ⟨fun N z => ⟨(fun k h => by cases h), a4, g4, p4, h4⟩, ⟨a4, p4, g4, h4, f4, q4⟩⟩
    | k + 5, hq => simp [zT] at hq
theorem w_nc {s : State} {b : Nat} (hgv : (Jvm.Cond.and given_1 narrow_1).before #[Value.ref b] s = true) : ∀ E ∈ zEx, ∀ E' ∈ zEx, E ≠ E' → va_Nc E E' s := by
  have hs := flat_of_before _ hgv
  have a1 : (Cond.not (.castable "java/lang/IndexOutOfBoundsException" "java/lang/IllegalArgumentException")).before #[Value.ref b] s = true := hs _ (by decide +kernel)
  have a2 : (Cond.not (.castable "java/lang/IndexOutOfBoundsException" "java/lang/IllegalStateException")).before #[Value.ref b] s = true := hs _ (by decide +kernel)
  have a3 : (Cond.not (.castable "java/lang/IllegalArgumentException" "java/lang/IndexOutOfBoundsException")).before #[Value.ref b] s = true := hs _ (by decide +kernel)
  have a4 : (Cond.not (.castable "java/lang/IllegalArgumentException" "java/lang/IllegalStateException")).before #[Value.ref b] s = true := hs _ (by decide +kernel)
  have a5 : (Cond.not (.castable "java/lang/IllegalStateException" "java/lang/IndexOutOfBoundsException")).before #[Value.ref b] s = true := hs _ (by decide +kernel)
  have a6 : (Cond.not (.castable "java/lang/IllegalStateException" "java/lang/IllegalArgumentException")).before #[Value.ref b] s = true := hs _ (by decide +kernel)
  have cs : ∀ E : String, E ∈ zEx → E = "java/lang/IndexOutOfBoundsException" ∨ E = "java/lang/IllegalArgumentException" ∨ E = "java/lang/IllegalStateException" := fun E h => by
    rcases List.mem_cons.mp h with h | h
    · exact Or.inl h
    · rcases List.mem_cons.mp h with h | h
      · exact Or.inr (Or.inl h)
      · exact Or.inr (Or.inr (List.mem_singleton.mp h))
  intro E hE E' hE' hne
  rcases cs E hE with rfl | rfl | rfl <;> rcases cs E' hE' with rfl | rfl | rfl
  · exact absurd rfl hne
  · exact va_Nc.of a1
  · exact va_Nc.of a2
  · exact va_Nc.of a3
  · exact absurd rfl hne
  · exact va_Nc.of a4
  · exact va_Nc.of a5
  · exact va_Nc.of a6
  · exact absurd rfl hne
theorem w_S {s : State} {b : Nat} (hgv : (Jvm.Cond.and given_1 narrow_1).before #[Value.ref b] s = true) : ∃ b8 b9 : Nat, vk_S 1 [6] [[68, 59, 49, 48, 120, 53]] (fun _ => b8) (fun _ => b9) (fun q : Nat => s.heap.size ≤ q) s s.heap ∧ (Term.string RL 184).eval #[Value.ref b] s none [] s = some (.ref b8) := by
  have hs := flat_of_before _ hgv
  have e1 : (Cond.exactly (Term.string RL 184) "java/lang/String").before #[Value.ref b] s = true := hs _ (by decide +kernel)
  have e2 : (Cond.eq (.field (Term.string RL 184) "java/lang/String" "coder" "B") (.int 0)).before #[Value.ref b] s = true := hs _ (by decide +kernel)
  have e3 : (Cond.arrayOf (.field (Term.string RL 184) "java/lang/String" "value" "[B") .byte).before #[Value.ref b] s = true := hs _ (by decide +kernel)
  have e4 : (Cond.eq (.length (.field (Term.string RL 184) "java/lang/String" "value" "[B")) (.int (Int32.ofNat 6))).before #[Value.ref b] s = true := hs _ (by decide +kernel)
  have x0 : (Cond.eq (.elem (.field (Term.string RL 184) "java/lang/String" "value" "[B") (.int (Int32.ofNat 0))) (.int 68)).before #[Value.ref b] s = true := hs _ (by decide +kernel)
  have x1 : (Cond.eq (.elem (.field (Term.string RL 184) "java/lang/String" "value" "[B") (.int (Int32.ofNat 1))) (.int 59)).before #[Value.ref b] s = true := hs _ (by decide +kernel)
  have x2 : (Cond.eq (.elem (.field (Term.string RL 184) "java/lang/String" "value" "[B") (.int (Int32.ofNat 2))) (.int 49)).before #[Value.ref b] s = true := hs _ (by decide +kernel)
  have x3 : (Cond.eq (.elem (.field (Term.string RL 184) "java/lang/String" "value" "[B") (.int (Int32.ofNat 3))) (.int 48)).before #[Value.ref b] s = true := hs _ (by decide +kernel)
  have x4 : (Cond.eq (.elem (.field (Term.string RL 184) "java/lang/String" "value" "[B") (.int (Int32.ofNat 4))) (.int 120)).before #[Value.ref b] s = true := hs _ (by decide +kernel)
  have x5 : (Cond.eq (.elem (.field (Term.string RL 184) "java/lang/String" "value" "[B") (.int (Int32.ofNat 5))) (.int 53)).before #[Value.ref b] s = true := hs _ (by decide +kernel)
  obtain ⟨adK, adV, hS, hE⟩ := vk_Sof (args := #[Value.ref b]) (s := s) (N := 1) (tm := fun _ => (Term.string RL 184)) (len := [6]) (byt := [[68, 59, 49, 48, 120, 53]]) (A := fun q : Nat => s.heap.size ≤ q) (fun i hi => by (have : i = 0 := by omega); subst this; decide) (fun _ _ => e1) (fun _ _ => e2) (fun _ _ => e3) (fun i hi => by (have : i = 0 := by omega); subst this; exact e4) (fun i hi j hj => by
    have : i = 0 := by omega
    subst this
    have hj : j < 6 := hj
    have : j = 0 ∨ j = 1 ∨ j = 2 ∨ j = 3 ∨ j = 4 ∨ j = 5 := by omega
    rcases this with rfl | rfl | rfl | rfl | rfl | rfl
    · exact x0
    · exact x1
    · exact x2
    · exact x3
    · exact x4
    · exact x5) (fun i j hi hj hne => absurd (by omega) hne) (fun a h => Nat.not_le.mpr h)
  refine ⟨adK 0, adV 0, ⟨fun i hi => ?_, fun i j hi hj _ => by omega⟩, hE 0 (by decide)⟩
  have : i = 0 := by omega
  subst this
  exact hS.1 0 hi
theorem w_G {s : State} {b : Nat} (hts : ∀ w ∈ lw_tbl, w.before #[Value.ref b] s = true) (hgv : (Jvm.Cond.and given_1 narrow_1).before #[Value.ref b] s = true) : ∃ (D : va_G) (J : Nat → ClassId), zG D J s ∧ J 7 = b ∧ vk_S 1 [6] [[68, 59, 49, 48, 120, 53]] (fun _ => J 8) (fun _ => J 9) (fun q : Nat => s.heap.size ≤ q) s s.heap := by
  obtain ⟨b8, b9, hS, hE⟩ := w_S hgv
  obtain ⟨D, J, hK, h7, h8, h9⟩ := w_K b b8 b9 hts
  obtain ⟨cC, kC, hfc, -⟩ := Cond.instantiable_spec (hts _ w_i7)
  refine ⟨D, J, ⟨hK, va_AO.of (hts _ w_over), fun q hq => ?_, fun E hE => va_Nw.of rfl (hts _ (w_cast E hE)), w_nc hgv, fun x hx => va_Nw.of rfl (hts _ (w_decl x hx)), fun q hq => va_Nw.of rfl (hts _ (w_nest q hq)), ?_⟩, h7, ?_⟩
  · have hw := hts _ (w_str q hq)
    obtain ⟨k, cf, i, a, -, -, -, -, -, he⟩ := Cond.stringRef_spec hfc hw
    exact ⟨a, vk_R.of hw he⟩
  · rw [h8]
    exact vk_R.of (hts _ w_strL) hE
  · rw [h8, h9]
    exact hS
theorem w_H {s : State} {b L : Nat} {J : Nat → ClassId} {xs : Nat → Int32} (hts : ∀ w ∈ lw_tbl, w.before #[Value.ref b] s = true) (hgv : (Jvm.Cond.and given_1 narrow_1).before #[Value.ref b] s = true) (h7 : J 7 = b) (hS : vk_S 1 [6] [[68, 59, 49, 48, 120, 53]] (fun _ => J 8) (fun _ => J 9) (fun q : Nat => s.heap.size ≤ q) s s.heap) (hL : L ≤ 260) (hX : va_X b L xs s s.heap) (hbl : b < s.heap.size) : zH J (fun q : Nat => s.heap.size ≤ q) s s.heap := by
  have hs := flat_of_before _ hgv
  have hA : ∀ a : Nat, a < s.heap.size → ¬ (fun q : Nat => s.heap.size ≤ q) a := fun a h => Nat.not_le.mpr h
  have c1 : (Cond.eq (.static "java/lang/String" "COMPACT_STRINGS" "Z") (.int 1)).before #[Value.ref b] s = true := hs _ (by decide +kernel)
  have c2 : (Cond.isRef (.static "jdk/internal/util/Preconditions" "SIOOBE_FORMATTER" "Ljava/util/function/BiFunction;")).before #[Value.ref b] s = true := hs _ (by decide +kernel)
  refine ⟨vx_Zqof (hts _ w_ls1) (hts _ w_lsi) (hs _ (by decide +kernel)) hA, vx_Zqof (hts _ w_ls2) (hts _ w_lsi) (hs _ (by decide +kernel)) hA, hS, va_Zof (hts _ w_lsc) (hts _ w_lscI) (va_eqt c1) hA, va_Zqof (hts _ w_lsp) (hts _ w_lspI) c2 hA, L, (fun j => (xs j).toInt), by omega, fun j => ?_, ?_, by rw [h7]; exact hbl, by rw [h7]; exact hA b hbl⟩
  · have h1 := Int32.toInt_lt (xs j)
    have h2 := Int32.le_toInt (xs j)
    show -2147483648 ≤ (xs j).toInt ∧ (xs j).toInt ≤ 2147483647
    omega
  · have e : (fun j => zi ((xs j).toInt)) = xs := funext fun j => Int32.ofInt_toInt (xs j)
    rw [h7]
    show va_X b L (fun j => zi ((xs j).toInt)) s s.heap
    rw [e]
    exact hX
