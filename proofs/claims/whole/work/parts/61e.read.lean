theorem m_zero_L {F : Nat} (k : (Nat → Int) → Option (Int × Int × Int × Int × (Nat → Int))) : ∀ (m N i : Nat) (f : Nat → Int), i + m = 243 → m < N → ∃ f', sh_X9_readText_L2 F (fun _ (v9 : Nat → Int) => k v9) N (i : Int) f = k f' ∧ (∀ j, i ≤ j → j < 243 → f' j = 0) ∧ ∀ j, j < i → f' j = f j := by
  intro m
  induction m with
  | zero =>
    intro N i f hi hN
    obtain ⟨N, rfl⟩ : ∃ M, N = M + 1 := ⟨N - 1, by omega⟩
    refine ⟨f, ?_, fun j a b => by omega, fun _ _ => rfl⟩
    rw [sh_X9_readText_L2, zkr_t (by omega) (by omega), if_neg (by omega)]
  | succ m ih =>
    intro N i f hi hN
    obtain ⟨N, rfl⟩ : ∃ M, N = M + 1 := ⟨N - 1, by omega⟩
    obtain ⟨f', x1, x2, x3⟩ := ih N (i + 1) (va_up f i 0) (by omega) (by omega)
    refine ⟨f', ?_, fun j a b => ?_, fun j hj => by rw [x3 j (by omega), up_n _ _ _ (by omega)]⟩
    · rw [sh_X9_readText_L2, zkr_t (by omega) (by omega), if_pos (by omega), zkx_t (by omega) (by omega), ix_n]
      exact x1
    · by_cases e : j = i
      · subst e; rw [x3 _ (by omega), up_s]
      · exact x2 j (by omega) b
theorem m_read {F L : Nat} {s : Nat → Int} (hF : 5000 ≤ F) (T : tx_ok L s) (rh0 rw0 : Int) (f0 : Nat → Int) : ∃ sp rh rw1 f', sh_X9_readText F (L : Int) rh0 rw0 s f0 = some (tx_err L s, sp, rh, rw1, f') ∧ (tx_err L s = -9 → ∃ (h w : Nat) (b : Int) (r : Nat × List zSl), (1 ≤ h ∧ h ≤ 4) ∧ (1 ≤ w ∧ w ≤ 4) ∧ (1 ≤ b ∧ b ≤ 9) ∧ sg_of L s 1 - 48 = (h : Int) ∧ sg_of L s 2 - 48 = (w : Int) ∧ sg_of L s 3 - 48 = b ∧ ps L s (h * w) 4 = .inr r ∧ rh = (h : Int) ∧ rw1 = (w : Int) ∧ Rm (h * w) 0 f' (ab_new r.2 b)) := by
  have hL := T.1
  obtain ⟨f1, z1, z2, z3⟩ := m_zero_L (F := F) (fun v9 => (sh_X9_readLetter F (L : Int) (0 : Int) s (68 : Int)).bind (fun (q10 : Int × Int) => zkr q10.1 (if q10.1 = (0 : Int) then some (q10.2, q10.2, rh0, rw0, v9) else (sh_X9_digit F (L : Int) q10.2 s (1 : Int) (4 : Int)).bind (fun (q13 : Int × Int) => zkr q13.1 (if q13.1 = (-9 : Int) then (if (-9 : Int) = (-9 : Int) then zkr ((va_up v9 ((240 : Int)).toNat (-9 : Int)) ((240 : Int)).toNat) (if ((va_up v9 ((240 : Int)).toNat (-9 : Int)) ((240 : Int)).toNat) = (-9 : Int) then some (q13.2, q13.2, q13.1, (-9 : Int), (va_up v9 ((240 : Int)).toNat (-9 : Int))) else sh_X9_readText_L124_4 F (L : Int) s q13 (fun (v90 : Int) (v91 : Int) (v92 : Nat → Int) => zkr v91 (zkr (L : Int) (if v91 = (L : Int) then some ((-9 : Int), v91, q13.1, (-9 : Int), v92) else some (v91, v91, q13.1, (-9 : Int), v92)))) F (0 : Int) q13.2 (va_up v9 ((240 : Int)).toNat (-9 : Int))) else (sh_X9_digit F (L : Int) q13.2 s (1 : Int) (9 : Int)).bind (fun (q57 : Int × Int) => zkr ((va_up v9 ((240 : Int)).toNat q57.1) ((240 : Int)).toNat) (if ((va_up v9 ((240 : Int)).toNat q57.1) ((240 : Int)).toNat) = (-9 : Int) then some (q57.2, q57.2, q13.1, (-9 : Int), (va_up v9 ((240 : Int)).toNat q57.1)) else sh_X9_readText_L124_3 F (L : Int) s q13 (fun (v72 : Int) (v73 : Int) (v74 : Nat → Int) => zkr v73 (zkr (L : Int) (if v73 = (L : Int) then some ((-9 : Int), v73, q13.1, (-9 : Int), v74) else some (v73, v73, q13.1, (-9 : Int), v74)))) F (0 : Int) q57.2 (va_up v9 ((240 : Int)).toNat q57.1)))) else (sh_X9_digit F (L : Int) q13.2 s (1 : Int) (4 : Int)).bind (fun (q16 : Int × Int) => zkr q16.1 (if q16.1 = (-9 : Int) then zkr ((va_up v9 ((240 : Int)).toNat (-9 : Int)) ((240 : Int)).toNat) (if ((va_up v9 ((240 : Int)).toNat (-9 : Int)) ((240 : Int)).toNat) = (-9 : Int) then some (q16.2, q16.2, q13.1, q16.1, (va_up v9 ((240 : Int)).toNat (-9 : Int))) else sh_X9_readText_L124_2 F (L : Int) s q13 q16 (fun (v52 : Int) (v53 : Int) (v54 : Nat → Int) => zkr v53 (zkr (L : Int) (if v53 = (L : Int) then some ((-9 : Int), v53, q13.1, q16.1, v54) else some (v53, v53, q13.1, q16.1, v54)))) F (0 : Int) q16.2 (va_up v9 ((240 : Int)).toNat (-9 : Int))) else (sh_X9_digit F (L : Int) q16.2 s (1 : Int) (9 : Int)).bind (fun (q19 : Int × Int) => zkr ((va_up v9 ((240 : Int)).toNat q19.1) ((240 : Int)).toNat) (if ((va_up v9 ((240 : Int)).toNat q19.1) ((240 : Int)).toNat) = (-9 : Int) then some (q19.2, q19.2, q13.1, q16.1, (va_up v9 ((240 : Int)).toNat q19.1)) else sh_X9_readText_L124 F (L : Int) s q13 q16 (fun (v34 : Int) (v35 : Int) (v36 : Nat → Int) => zkr v35 (zkr (L : Int) (if v35 = (L : Int) then some ((-9 : Int), v35, q13.1, q16.1, v36) else some (v35, v35, q13.1, q16.1, v36)))) F (0 : Int) q19.2 (va_up v9 ((240 : Int)).toNat q19.1)))))))))) 243 F 0 f0 (by omega) (by omega)
  have z1' : sh_X9_readText F (L : Int) rh0 rw0 s f0 = _ := z1
  rw [z1']
  clear z1 z1'
  have e240 : (240 : Int).toNat = 240 := rfl
  have l0 : sh_X9_readLetter F (L : Int) (0 : Int) s (68 : Int) = _ := m_letter (F := F) T (j := 0) (by omega) (c := 68) (by decide)
  unfold tx_err
  by_cases c0 : sg_of L s 0 = 68
  · have g0 := sg_in (L := L) (s := s) (j := 0) (by omega)
    have d1 : sh_X9_digit F (L : Int) ((0 + 1 : Nat) : Int) s (1 : Int) (4 : Int) = _ := m_dig (F := F) T (j := 1) (by omega) (lo := 1) (hi := 4) (by decide) (by decide)
    rw [if_pos c0] at l0 ⊢
    rw [l0, Option.bind_some]
    dsimp only
    rw [zkr_t (by decide) (by decide), if_neg (by decide)]
    by_cases c1 : 1 ≤ sg_of L s 1 - 48 ∧ sg_of L s 1 - 48 ≤ 4
    · have g1 := sg_in (L := L) (s := s) (j := 1) (by omega)
      have d2 : sh_X9_digit F (L : Int) ((1 + 1 : Nat) : Int) s (1 : Int) (4 : Int) = _ := m_dig (F := F) T (j := 2) (by omega) (lo := 1) (hi := 4) (by decide) (by decide)
      rw [if_pos c1] at d1 ⊢
      rw [d1, Option.bind_some]
      dsimp only
      rw [zkr_t (by omega) (by omega), if_neg (by omega)]
      by_cases c2 : 1 ≤ sg_of L s 2 - 48 ∧ sg_of L s 2 - 48 ≤ 4
      · have g2 := sg_in (L := L) (s := s) (j := 2) (by omega)
        have d3 : sh_X9_digit F (L : Int) ((2 + 1 : Nat) : Int) s (1 : Int) (9 : Int) = _ := m_dig (F := F) T (j := 3) (by omega) (lo := 1) (hi := 9) (by decide) (by decide)
        rw [if_pos c2] at d2 ⊢
        rw [d2, Option.bind_some]
        dsimp only
        rw [zkr_t (by omega) (by omega), if_neg (by omega)]
        by_cases c3 : 1 ≤ sg_of L s 3 - 48 ∧ sg_of L s 3 - 48 ≤ 9
        · have g3 := sg_in (L := L) (s := s) (j := 3) (by omega)
          rw [if_pos c3] at d3 ⊢
          rw [d3, Option.bind_some]
          dsimp only
          rw [e240, up_s, zkr_t (by omega) (by omega), if_neg (by omega)]
          obtain ⟨h, hhe⟩ : ∃ h : Nat, sg_of L s 1 - 48 = (h : Int) := ⟨(sg_of L s 1 - 48).toNat, by omega⟩
          obtain ⟨w, hwe⟩ : ∃ w : Nat, sg_of L s 2 - 48 = (w : Int) := ⟨(sg_of L s 2 - 48).toNat, by omega⟩
          have hh : 1 ≤ h ∧ h ≤ 4 := by omega
          have hw : 1 ≤ w ∧ w ≤ 4 := by omega
          have hn := gz_n16 hh.2 hw.2
          rw [hhe, hwe, Int.toNat_natCast, Int.toNat_natCast]
          obtain ⟨sp, f', x1, x2⟩ := m_rcols_L (F := F) (L := L) (s := s) hF T hn ((h : Int), ((1 + 1 : Nat) : Int)) ((w : Int), ((2 + 1 : Nat) : Int)) (Int.natCast_mul h w).symm (h * w) F 0 4 (va_up f1 240 (sg_of L s 3 - 48)) (by omega) (by omega) (by omega) (fun q _ hq => by rw [up_n _ _ _ (by omega)]; exact z2 _ (by omega) (by omega))
          refine ⟨sp, (h : Int), (w : Int), f', x1, fun he => ?_⟩
          cases hd : ps L s (h * w) 4 with
          | inl e => rw [hd] at he; unfold tx_end at he; dsimp only at he; omega
          | inr r =>
            obtain ⟨y1, y2⟩ := x2 r hd
            have hl := (ps_le (L := L) (s := s) (h * w) 4 (by omega)).2 r hd
            refine ⟨h, w, sg_of L s 3 - 48, r, hh, hw, c3, rfl, rfl, rfl, hd, rfl, rfl, fun p hp => ?_, ?_, ?_, ?_⟩
            · have hj : r.2[p]? = some r.2[p] := List.getElem?_eq_getElem (by omega)
              have hx := y1 p _ hj
              rw [Nat.zero_add] at hx
              have hok := (hl.2.2 r.2[p] (List.getElem_mem _)).1
              rw [Nat.zero_add]
              refine ⟨by omega, ?_, ?_, ?_⟩
              · rw [hx.1, Int.toNat_natCast, hx.2]
                show _ = r.2[p]?.getD []
                rw [hj]
                rfl
              · rw [y2 _ (by omega), up_n _ _ _ (by omega)]
                exact z2 _ (by omega) (by omega)
              · rw [y2 _ (by omega), up_n _ _ _ (by omega)]
                exact z2 _ (by omega) (by omega)
            · rw [y2 _ (by omega)]
              exact up_s _ _ _
            · rw [y2 _ (by omega), up_n _ _ _ (by omega)]
              exact z2 _ (by omega) (by omega)
            · rw [y2 _ (by omega), up_n _ _ _ (by omega)]
              exact z2 _ (by omega) (by omega)
        · rw [if_neg c3] at d3 ⊢
          rw [d3, Option.bind_some]
          dsimp only
          rw [e240, up_s, zkr_t (by decide) (by decide), if_pos rfl]
          exact ⟨_, _, _, _, rfl, fun z => absurd z (by decide)⟩
      · rw [if_neg c2] at d2 ⊢
        rw [d2, Option.bind_some]
        dsimp only
        rw [zkr_t (by decide) (by decide), if_pos rfl, e240, up_s, zkr_t (by decide) (by decide), if_pos rfl]
        exact ⟨_, _, _, _, rfl, fun z => absurd z (by decide)⟩
    · rw [if_neg c1] at d1 ⊢
      rw [d1, Option.bind_some]
      dsimp only
      rw [zkr_t (by decide) (by decide), if_pos rfl, if_pos rfl, e240, up_s, zkr_t (by decide) (by decide), if_pos rfl]
      exact ⟨_, _, _, _, rfl, fun z => absurd z (by decide)⟩
  · rw [if_neg c0] at l0 ⊢
    rw [l0, Option.bind_some]
    dsimp only
    rw [zkr_t (by decide) (by decide), if_pos rfl]
    exact ⟨_, _, _, _, rfl, fun z => absurd z (by decide)⟩
