/-! THE GRID'S cells are laid -/
def nbl (w p q : Nat) : List Nat := (List.range q).filter (fun r => gz_dist w p r == 1)
theorem nbl_s (w p q : Nat) : nbl w p (q + 1) = nbl w p q ++ (if gz_dist w p q = 1 then [q] else []) := by
  unfold nbl
  rw [List.range_succ, List.filter_append]
  congr 1
  rw [List.filter_cons]
  by_cases c : gz_dist w p q = 1
  · rw [if_pos c, if_pos (beq_iff_eq.mpr c)]; rfl
  · rw [if_neg c, if_neg (fun z => c (beq_iff_eq.mp z))]; rfl
theorem nbl_pre (w p q : Nat) : ∀ m, ∃ r, nbl w p (q + m) = nbl w p q ++ r
  | 0 => ⟨[], by rw [Nat.add_zero, List.append_nil]⟩
  | m + 1 => by
    obtain ⟨r, hr⟩ := nbl_pre w p q m
    refine ⟨r ++ (if gz_dist w p (q + m) = 1 then [q + m] else []), ?_⟩
    rw [show q + (m + 1) = (q + m) + 1 by omega, nbl_s, hr, List.append_assoc]
def gi_ne (n w : Nat) (c : Nat) : Int := (((nbl w (c / 4) n)[c % 4]?.getD 0 : Nat) : Int)
def gi_nc (n w : Nat) (p : Nat) : Int := (((nbl w p n).length : Nat) : Int)
theorem gz_ideal {h w : Nat} {ro co : Nat → Int} (hh : 1 ≤ h ∧ h ≤ 4) (hw : 1 ≤ w ∧ w ≤ 4) (hr : ∀ p, p < h * w → ro p = ((p / w : Nat) : Int) ∧ co p = ((p % w : Nat) : Int)) : gz_ok h w ((h * w : Nat) : Int) ro co (gi_ne (h * w) w) (gi_nc (h * w) w) := by
  refine ⟨hh.1, hh.2, hw.1, hw.2, rfl, fun p hp => ⟨(hr p hp).1, (hr p hp).2, rfl, fun i hi => ?_⟩⟩
  have hl := gz_len4 h (by omega) w (by omega) hh.1 hw.1 p hp
  unfold gi_ne
  rw [show (4 * p + i) / 4 = p by omega, show (4 * p + i) % 4 = i by omega]
  have : (nbl w p (h * w))[i]? = some ((gz_nb (h * w) w p)[i]) := List.getElem?_eq_getElem hi
  rw [this]
  rfl
theorem fn_L {F h w : Nat} {size : Int} {ro co nc : Nat → Int} (hh : 1 ≤ h ∧ h ≤ 4) (hw : 1 ≤ w ∧ w ≤ 4) (hs : size = ((h * w : Nat) : Int)) (hr : ∀ p, p < h * w → ro p = ((p / w : Nat) : Int) ∧ co p = ((p % w : Nat) : Int)) {p : Nat} (hp : p < h * w) : ∀ (m N q : Nat) (ne : Nat → Int), q + m = h * w → m < N → (∀ (i r : Nat), (nbl w p q)[i]? = some r → ne (4 * p + i) = (r : Int)) → ∃ ne', sh_X2_findNeighbours_L4 F (p : Int) size ro co (fun v16 _ (v18 : Nat → Int) => zkx (p : Int) 16 (some (v18, va_up nc ((p : Int)).toNat v16))) N (((nbl w p q).length : Nat) : Int) (q : Int) ne = some (ne', va_up nc p (((nbl w p (h * w)).length : Nat) : Int)) ∧ (∀ (i r : Nat), (nbl w p (h * w))[i]? = some r → ne' (4 * p + i) = (r : Int)) ∧ ∀ c, (c < 4 * p ∨ 4 * p + 4 ≤ c) → ne' c = ne c := by
  have hn := gz_n16 hh.2 hw.2
  have hl4 : (nbl w p (h * w)).length ≤ 4 := gz_len4 h (by omega) w (by omega) hh.1 hw.1 p hp
  intro m
  induction m with
  | zero =>
    intro N q ne hq hN hne
    obtain ⟨N, rfl⟩ : ∃ M, N = M + 1 := ⟨N - 1, by omega⟩
    have e : q = h * w := by omega
    subst e
    refine ⟨ne, ?_, hne, fun _ _ => rfl⟩
    rw [sh_X2_findNeighbours_L4, zkr_t (by omega) (by omega), zkr_t (by omega) (by omega), if_neg (by omega), zkx_t (by omega) (by omega), ix_n]
  | succ m ih =>
    intro N q ne hq hN hne
    obtain ⟨N, rfl⟩ : ∃ M, N = M + 1 := ⟨N - 1, by omega⟩
    obtain ⟨r, hpre⟩ := nbl_pre w p q (m + 1)
    have hlen := congrArg List.length hpre
    rw [List.length_append, hq] at hlen
    rw [sh_X2_findNeighbours_L4, zkr_t (by omega) (by omega), zkr_t (by omega) (by omega), if_pos (by omega), zkr_t (by omega) (by omega)]
    by_cases c4 : (nbl w p q).length < 4
    · have ed := c_distance F h w p q ((h * w : Nat) : Int) ro co _ _ (gz_ideal hh hw hr) hp (by omega)
      have hdl := gz_le w (by omega) p (by omega) q (by omega)
      rw [if_pos (by omega), ed, Option.bind_some, zkr_t (by omega) (by omega)]
      by_cases cd : gz_dist w p q = 1
      · have es := nbl_s w p q
        rw [if_pos cd] at es
        have el : (nbl w p (q + 1)).length = (nbl w p q).length + 1 := by rw [es, List.length_append]; rfl
        have i4 : (((p : Int) * (4 : Int)) + (((nbl w p q).length : Nat) : Int)).toNat = 4 * p + (nbl w p q).length := by omega
        obtain ⟨ne', x1, x2, x3⟩ := ih N (q + 1) (va_up ne (4 * p + (nbl w p q).length) (q : Int)) (by omega) (by omega) (fun i r' hi => by
          rw [es] at hi
          by_cases e : i = (nbl w p q).length
          · subst e
            rw [List.getElem?_append_right (Nat.le_refl _), Nat.sub_self] at hi
            injection hi with hi
            rw [up_s, ← hi]
          · rw [up_n _ _ _ (by omega)]
            by_cases e2 : i < (nbl w p q).length
            · rw [List.getElem?_append_left e2] at hi
              exact hne i r' hi
            · rw [List.getElem?_eq_none (by rw [List.length_append]; show (nbl w p q).length + 1 ≤ i; omega)] at hi
              cases hi)
        refine ⟨ne', ?_, x2, fun c hc => by rw [x3 c hc, up_n _ _ _ (by omega)]⟩
        rw [if_pos (by omega), zkx_t (by omega) (by omega), i4, nc_s, nc_s, ← el]
        exact x1
      · have es := nbl_s w p q
        rw [if_neg cd, List.append_nil] at es
        obtain ⟨ne', x1, x2, x3⟩ := ih N (q + 1) ne (by omega) (by omega) (by rw [es]; exact hne)
        refine ⟨ne', ?_, x2, x3⟩
        rw [if_neg (by omega), nc_s, ← es]
        exact x1
    · have hr0 : r = [] := List.eq_nil_of_length_eq_zero (by omega)
      rw [hr0, List.append_nil, hq] at hpre
      refine ⟨ne, ?_, by rw [hpre]; exact hne, fun _ _ => rfl⟩
      rw [if_neg (by omega), zkx_t (by omega) (by omega), ix_n, hpre]
theorem sh_70 {F h w : Nat} {ro co : Nat → Int} {z : Int} (hF : 5000 ≤ F) (hh : 1 ≤ h ∧ h ≤ 4) (hw : 1 ≤ w ∧ w ≤ 4) (hz : zmin ((h : Int) * (w : Int)) (16 : Int) = z) (hs : z = ((h * w : Nat) : Int)) (hr : ∀ p, p < h * w → ro p = ((p / w : Nat) : Int) ∧ co p = ((p % w : Nat) : Int)) : ∀ (m N p : Nat) (ne nc : Nat → Int), p + m = h * w → m < N → (∀ q, q < p → nc q = (((nbl w q (h * w)).length : Nat) : Int) ∧ ∀ (i r : Nat), (nbl w q (h * w))[i]? = some r → ne (4 * q + i) = (r : Int)) → ∃ ne' nc', sh_X2_shape_L70 F (h : Int) (w : Int) ro co (fun _ (v37 : Nat → Int) (v38 : Nat → Int) => some (zmin ((h : Int) * (w : Int)) (16 : Int), ro, co, v37, v38)) N (p : Int) ne nc = some (z, ro, co, ne', nc') ∧ gz_ok h w z ro co ne' nc' := by
  have hn := gz_n16 hh.2 hw.2
  intro m
  induction m with
  | zero =>
    intro N p ne nc hp hN hinv
    obtain ⟨N, rfl⟩ : ∃ M, N = M + 1 := ⟨N - 1, by omega⟩
    have e : p = h * w := by omega
    subst e
    refine ⟨ne, nc, ?_, hh.1, hh.2, hw.1, hw.2, hs, fun q hq => ⟨(hr q hq).1, (hr q hq).2, (hinv q hq).1, fun i hi => (hinv q hq).2 i _ (List.getElem?_eq_getElem hi)⟩⟩
    rw [sh_X2_shape_L70, hz, zkr_t (by omega) (by omega), zkr_t (by omega) (by omega), if_neg (by omega)]
  | succ m ih =>
    intro N p ne nc hp hN hinv
    obtain ⟨N, rfl⟩ : ∃ M, N = M + 1 := ⟨N - 1, by omega⟩
    obtain ⟨ne1, x1, x2, x3⟩ := fn_L (F := F) (nc := nc) hh hw hs hr (p := p) (by omega) (h * w) F 0 ne (by omega) (by omega) (fun i r hi => by
      rw [show nbl w p 0 = [] from rfl] at hi
      cases hi)
    have ef : sh_X2_findNeighbours F z ro co ne nc (p : Int) = _ := x1
    obtain ⟨ne', nc', y1, y2⟩ := ih N (p + 1) ne1 (va_up nc p (((nbl w p (h * w)).length : Nat) : Int)) (by omega) (by omega) (fun q hq => by
      by_cases e : q = p
      · subst e; rw [up_s]; exact ⟨rfl, x2⟩
      · rw [up_n _ _ _ e]
        refine ⟨(hinv q (by omega)).1, fun i r hi => ?_⟩
        have hl4 : (nbl w q (h * w)).length ≤ 4 := gz_len4 h (by omega) w (by omega) hh.1 hw.1 q (by omega)
        have hi4 : i < (nbl w q (h * w)).length := by
          by_cases z : i < (nbl w q (h * w)).length
          · exact z
          · rw [List.getElem?_eq_none (by omega)] at hi; cases hi
        rw [x3 _ (by omega)]
        exact (hinv q (by omega)).2 i r hi)
    refine ⟨ne', nc', ?_, y2⟩
    rw [← y1]
    rw [sh_X2_shape_L70, hz, zkr_t (by omega) (by omega), zkr_t (by omega) (by omega), if_pos (by omega), ef, Option.bind_some]
    rfl
theorem dm_s {p w : Nat} (hw : 1 ≤ w) : (p % w + 1 = w → (p + 1) / w = p / w + 1 ∧ (p + 1) % w = 0) ∧ (p % w + 1 ≠ w → (p + 1) / w = p / w ∧ (p + 1) % w = p % w + 1) := by
  have h1 := Nat.div_add_mod p w
  have h2 := Nat.mod_lt p (show 0 < w by omega)
  constructor
  · intro h
    have e : p + 1 = w * (p / w + 1) := by rw [Nat.mul_add, Nat.mul_one]; omega
    rw [e]
    exact ⟨Nat.mul_div_cancel_left _ (by omega), Nat.mul_mod_right _ _⟩
  · intro h
    have e : p + 1 = (p % w + 1) + w * (p / w) := by omega
    rw [e, Nat.add_mul_div_left _ _ (by omega), Nat.add_mul_mod_self_left, Nat.div_eq_of_lt (by omega), Nat.mod_eq_of_lt (by omega), Nat.zero_add]
    exact ⟨rfl, rfl⟩
theorem c_shape {F h w : Nat} (hF : 5000 ≤ F) (hh : 1 ≤ h ∧ h ≤ 4) (hw : 1 ≤ w ∧ w ≤ 4) (ro co ne nc : Nat → Int) : ∃ ro' co' ne' nc', sh_X2_shape F ro co ne nc (h : Int) (w : Int) = some (((h * w : Nat) : Int), ro', co', ne', nc') ∧ gz_ok h w ((h * w : Nat) : Int) ro' co' ne' nc' := by
  have hn := gz_n16 hh.2 hw.2
  have hz : zmin ((h : Int) * (w : Int)) (16 : Int) = ((h * w : Nat) : Int) := by
    rw [← Int.natCast_mul]; unfold zmin; rw [if_neg (by omega)]
  have key : ∀ (m N p : Nat) (ro co : Nat → Int), p + m = h * w → m < N → (∀ q, q < p → ro q = ((q / w : Nat) : Int) ∧ co q = ((q % w : Nat) : Int)) → ∃ ro' co' ne' nc', sh_X2_shape_L20 F (h : Int) (w : Int) (fun _ _ _ (v23 : Nat → Int) (v24 : Nat → Int) => sh_X2_shape_L70 F (h : Int) (w : Int) v23 v24 (fun _ (v37 : Nat → Int) (v38 : Nat → Int) => some (zmin ((h : Int) * (w : Int)) (16 : Int), v23, v24, v37, v38)) F (0 : Int) ne nc) N ((p / w : Nat) : Int) ((p % w : Nat) : Int) (p : Int) ro co = some (((h * w : Nat) : Int), ro', co', ne', nc') ∧ gz_ok h w ((h * w : Nat) : Int) ro' co' ne' nc' := by
    intro m
    induction m with
    | zero =>
      intro N p ro co hp hN hinv
      obtain ⟨N, rfl⟩ : ∃ M, N = M + 1 := ⟨N - 1, by omega⟩
      have e : p = h * w := by omega
      subst e
      obtain ⟨ne', nc', y1, y2⟩ := sh_70 (F := F) hF hh hw hz rfl hinv (h * w) F 0 ne nc (by omega) (by omega) (fun q hq => absurd hq (Nat.not_lt_zero _))
      refine ⟨ro, co, ne', nc', ?_, y2⟩
      rw [sh_X2_shape_L20, hz, zkr_t (by omega) (by omega), zkr_t (by omega) (by omega), if_neg (by omega), ← hz]
      rw [← hz] at y1
      exact y1
    | succ m ih =>
      intro N p ro co hp hN hinv
      obtain ⟨N, rfl⟩ : ∃ M, N = M + 1 := ⟨N - 1, by omega⟩
      have hd := dm_s (p := p) hw.1
      have hml := Nat.mod_lt p (show 0 < w by omega)
      obtain ⟨ro', co', ne', nc', x1, x2⟩ := ih N (p + 1) (va_up ro p ((p / w : Nat) : Int)) (va_up co p ((p % w : Nat) : Int)) (by omega) (by omega) (fun q hq => by
        by_cases e : q = p
        · subst e; rw [up_s, up_s]; exact ⟨rfl, rfl⟩
        · rw [up_n _ _ _ e, up_n _ _ _ e]; exact hinv q (by omega))
      refine ⟨ro', co', ne', nc', ?_, x2⟩
      rw [← x1]
      have hz2 := hz
      generalize hQ : p / w = Q at *
      generalize hM : p % w = Mo at *
      rw [sh_X2_shape_L20, hz, zkr_t (by omega) (by omega), zkr_t (by omega) (by omega), if_pos (by omega), zkx_t (by omega) (by omega), zkr_t (by omega) (by omega), zkr_t (by omega) (by omega), ix_n]
      by_cases c : Mo + 1 = w
      · rw [if_pos (by omega), (hd.1 c).1, (hd.1 c).2]
        rfl
      · rw [if_neg (by omega), (hd.2 c).1, (hd.2 c).2]
        rfl
  obtain ⟨ro', co', ne', nc', x1, x2⟩ := key (h * w) F 0 ro co (by omega) (by omega) (fun q hq => absurd hq (Nat.not_lt_zero _))
  refine ⟨ro', co', ne', nc', ?_, x2⟩
  rw [Nat.zero_div, Nat.zero_mod] at x1
  unfold sh_X2_shape
  rw [zkr_t (by rw [← Int.natCast_mul]; omega) (by rw [← Int.natCast_mul]; omega)]
  exact x1
