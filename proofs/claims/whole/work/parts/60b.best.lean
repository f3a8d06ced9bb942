/-! THE REFERENCE'S way down and back -/
def bnd : Nat → Nat
  | 0 => 0
  | 1 => 1
  | m + 2 => 16 * (1 + bnd (m + 1)) + 1
def zFB (F n : Nat) (h w : Nat) (N : Nat) (d : Int) (lv ch bt : Nat → Int) : Option ((Nat → Int) × (Nat → Int) × (Nat → Int)) := sh_X9_findBest_L30 F (n : Int) (h : Int) (w : Int) (fun _ (v31 : Nat → Int) (v32 : Nat → Int) (v33 : Nat → Int) => some (v31, v32, v33)) N d lv ch bt
theorem fb_inner {F h w n m d : Nat} {b g0 : Int} {a : zAb} {tr : Nat → Int} (hF : 5000 ≤ F) (hh : 1 ≤ h ∧ h ≤ 4) (hw : 1 ≤ w ∧ w ≤ 4) (hn4 : n ≤ 4) (hd : d + (m + 2) = n) (W : ab_wf (h * w) w b a) (hb : b + 4 ≤ 200000) (hs : 0 ≤ ab_gs a - g0 ∧ ab_gs a - g0 + 9 * (m + 2) ≤ 60)
    (IH : ∀ (a' : zAb) (b' : Int) (lv ch bt tr' : Nat → Int) (B : zBst), ab_wf (h * w) w b' a' → b' = b + 1 → Rm (h * w) (243 * (d + 1)) lv a' → lv 242 = g0 → (0 ≤ ab_gs a' - g0 ∧ ab_gs a' - g0 + 9 * (m + 1) ≤ 60) → (∀ j, j < d + 1 → ch j = tr' j) → ch (d + 1) = -1 → bs_ok B → zMB n bt B → ∃ T lv' ch' bt', T ≤ bnd (m + 1) ∧ (∀ N, zFB F n h w (N + T) ((d + 1 : Nat) : Int) lv ch bt = zFB F n h w N (((d + 1 : Nat) : Int) + (-1 : Int)) lv' ch' bt') ∧ (∀ j, j < 243 * (d + 1) → lv' j = lv j) ∧ (∀ j, j < d + 1 → ch' j = tr' j) ∧ zMB n bt' (bs (h * w) w (m + 1) (d + 1) (ab_gs a' - g0) tr' a' B)) :
    ∀ (c p : Nat) (lv ch bt : Nat → Int) (B : zBst), p + c = h * w → Rm (h * w) (243 * d) lv a → lv 242 = g0 → (∀ j, j < d → ch j = tr j) → ch d = (p : Int) - 1 → bs_ok B → zMB n bt B → ∃ T lv' ch' bt', T ≤ c * (1 + bnd (m + 1)) + 1 ∧ (∀ N, zFB F n h w (N + T) (d : Int) lv ch bt = zFB F n h w N ((d : Int) + (-1 : Int)) lv' ch' bt') ∧ (∀ j, j < 243 * d → lv' j = lv j) ∧ (∀ j, j < d → ch' j = tr j) ∧ zMB n bt' (fo (bs_f (h * w) w (m + 1) d (ab_gs a - g0) tr a) c p B) := by
  have hn := gz_n16 hh.2 hw.2
  intro c
  induction c with
  | zero =>
    intro p lv ch bt B hp R hg0 hc hcd hB hM
    refine ⟨1, lv, va_up ch d (p : Int), bt, by omega, fun N => ?_, fun _ _ => rfl, fun j hj => by rw [up_n _ _ _ (by omega), hc j hj], hM⟩
    unfold zFB
    have e : ch d + 1 = (p : Int) := by omega
    simp (disch := omega) only [sh_X9_findBest_L30, zkr_t, zkx_t, if_neg, if_pos, m_points, Option.bind_some, ix_n, up_s, e]
  | succ c ih =>
    intro p lv ch bt B hp R hg0 hc hcd hB hM
    have hpn : p < h * w := by omega
    have e : ch d + 1 = (p : Int) := by omega
    have e1 : sh_X9_isReadyIn F (h : Int) (w : Int) lv 972 ((243 : Int) * (d : Int)) (p : Int) = some (if 0 < ab_slack (h * w) w a p then 1 else 0) := by
      have := R.ready (F := F) (o := 243 * d) (n0 := 972) (by omega) hh hw W (by omega) (by omega) (by omega) hpn
      rw [Int.natCast_mul] at this
      exact this
    rw [fo]
    by_cases cs : 0 < ab_slack (h * w) w a p
    · rw [if_pos cs] at e1
      have hne := (ab_slack_pos W hpn cs).2.1
      have hg := ab_grade0 (W.1 p hpn).1 hne
      have W1 := ab_take_wf W hpn cs
      have ec : sh_X9_copy_p0p2 F lv 972 ((243 : Int) * (d : Int)) (((243 : Int) * (d : Int)) + (243 : Int)) = some (cp_of lv lv (243 * d) (243 * (d + 1))) := by
        have := m_copy2 (F := F) (n0 := 972) (o1 := 243 * d) (o2 := 243 * (d + 1)) (g := lv) hF (by omega) (by omega) (by omega)
        rw [show ((243 * d : Nat) : Int) = (243 : Int) * (d : Int) from Int.natCast_mul _ _, show ((243 * (d + 1) : Nat) : Int) = ((243 : Int) * (d : Int)) + (243 : Int) by omega] at this
        exact this
      have R1 : Rm (h * w) (243 * (d + 1)) (cp_of lv lv (243 * d) (243 * (d + 1))) a := R.cp hn
      obtain ⟨lv1, u1, u2, u3⟩ := R1.take (F := F) (n0 := 972) (by omega) W hn (by omega) (by omega) hpn hne
      rw [show ((243 * (d + 1) : Nat) : Int) = (243 : Int) * ((d : Int) + (1 : Int)) by omega] at u1
      have hgs : ab_gs (ab_take a p) = ab_gs a + ab_grade (ab_col a p) 0 := rfl
      have lvlow : ∀ j, j < 243 * (d + 1) → lv1 j = lv j := fun j hj => by rw [u3 j (Or.inl hj), cp_out (Or.inl hj)]
      obtain ⟨T1, lv2, ch2, bt2, t1, t2, t3, t4, t5⟩ := IH (ab_take a p) (b + 1) lv1 (va_up (va_up ch d (p : Int)) (d + 1) (-1)) bt (va_up tr d (p : Int)) B W1 rfl u2 (by rw [lvlow 242 (by omega), hg0]) (by rw [hgs]; omega) (fun j hj => by
        rw [up_n _ _ _ (by omega)]
        by_cases z : j = d
        · subst z; rw [up_s, up_s]
        · rw [up_n _ _ _ z, up_n _ _ _ z, hc j (by omega)]) (up_s _ _ _) hB hM
      have ebs : bs_f (h * w) w (m + 1) d (ab_gs a - g0) tr a p B = bs (h * w) w (m + 1) (d + 1) (ab_gs (ab_take a p) - g0) (va_up tr d (p : Int)) (ab_take a p) B := by
        unfold bs_f; rw [if_pos cs, hgs, show ab_gs a - g0 + ab_grade (ab_col a p) 0 = ab_gs a + ab_grade (ab_col a p) 0 - g0 by omega]
      have hB2 : bs_ok (bs_f (h * w) w (m + 1) d (ab_gs a - g0) tr a p B) := by
        rw [ebs]
        exact bs_rng (m + 1) (d + 1) _ (b + 1) _ _ B W1 (by rw [hgs]; omega) (by rw [hgs]; omega) hB
      rw [← ebs] at t5
      have R2 : Rm (h * w) (243 * d) lv2 a := R.congr hn (fun i hi => by rw [t3 _ (by omega), lvlow _ (by omega)])
      have hcd2 : ch2 d = ((p + 1 : Nat) : Int) - 1 := by
        rw [t4 d (by omega), up_s]; omega
      obtain ⟨T2, lv3, ch3, bt3, v1, v2, v3, v4, v5⟩ := ih (p + 1) lv2 ch2 bt2 _ (by omega) R2 (by rw [t3 242 (by omega), lvlow 242 (by omega), hg0]) (fun j hj => by rw [t4 j (by omega), up_n _ _ _ (by omega)]) hcd2 hB2 t5
      refine ⟨T2 + (T1 + 1), lv3, ch3, bt3, ?_, fun N => ?_, fun j hj => by rw [v3 j hj, t3 j (by omega), lvlow j (by omega)], v4, v5⟩
      · rw [Nat.add_mul, Nat.one_mul]; omega
      · rw [← v2 N]
        have e0 : ((d : Int) + (1 : Int)) - (1 : Int) = (d : Int) := by omega
        have ed1 : ((d : Int) + (1 : Int)).toNat = d + 1 := by omega
        have t2' := t2 (N + T2)
        rw [show (((d + 1 : Nat) : Int) + (-1 : Int)) = (d : Int) by omega] at t2'
        rw [← t2']
        unfold zFB
        rw [show N + (T2 + (T1 + 1)) = (N + T2 + T1) + 1 by omega]
        simp (disch := omega) only [sh_X9_findBest_L30, zkr_t, zkx_t, if_neg, m_points, Option.bind_some, ix_n, up_s, e, e1, ec, e0, u1, ed1]
        rfl
    · rw [if_neg cs] at e1
      have ebs : bs_f (h * w) w (m + 1) d (ab_gs a - g0) tr a p B = B := by
        unfold bs_f; rw [if_neg cs]
      rw [ebs]
      obtain ⟨T2, lv3, ch3, bt3, v1, v2, v3, v4, v5⟩ := ih (p + 1) lv (va_up ch d (p : Int)) bt B (by omega) R hg0 (fun j hj => by rw [up_n _ _ _ (by omega), hc j hj]) (by rw [up_s]; omega) hB hM
      refine ⟨T2 + 1, lv3, ch3, bt3, ?_, fun N => ?_, v3, v4, v5⟩
      · rw [Nat.add_mul, Nat.one_mul]; omega
      · rw [← v2 N]
        unfold zFB
        rw [show N + (T2 + 1) = (N + T2) + 1 by omega]
        simp (disch := omega) only [sh_X9_findBest_L30, zkr_t, zkx_t, if_neg, m_points, Option.bind_some, ix_n, up_s, e, e1]
        exact if_pos trivial
theorem fb_all {F h w n : Nat} {g0 : Int} (hF : 5000 ≤ F) (hh : 1 ≤ h ∧ h ≤ 4) (hw : 1 ≤ w ∧ w ≤ 4) (hn4 : n ≤ 4) : ∀ (m d : Nat) (a : zAb) (b : Int) (lv ch bt tr : Nat → Int) (B : zBst), d + (m + 1) = n → ab_wf (h * w) w b a → b + 4 * m ≤ 199990 → Rm (h * w) (243 * d) lv a → lv 242 = g0 → (0 ≤ ab_gs a - g0 ∧ ab_gs a - g0 + 9 * (m + 1) ≤ 60) → (∀ j, j < d → ch j = tr j) → ch d = -1 → bs_ok B → zMB n bt B → ∃ T lv' ch' bt', T ≤ bnd (m + 1) ∧ (∀ N, zFB F n h w (N + T) (d : Int) lv ch bt = zFB F n h w N ((d : Int) + (-1 : Int)) lv' ch' bt') ∧ (∀ j, j < 243 * d → lv' j = lv j) ∧ (∀ j, j < d → ch' j = tr j) ∧ zMB n bt' (bs (h * w) w (m + 1) d (ab_gs a - g0) tr a B) := by
  have hn := gz_n16 hh.2 hw.2
  intro m
  induction m with
  | zero =>
    intro d a b lv ch bt tr B hd W hb R hg0 hs hc hcd hB hM
    obtain ⟨ch', bt', x1, x2, x3⟩ := lk_last (F := F) (by omega) hh hw hn4 (by omega) R W (by omega) hg0 (by omega) tr ch bt B hc hB hM
    refine ⟨1, lv, ch', bt', Nat.le_refl _, fun N => ?_, fun _ _ => rfl, x2, x3⟩
    unfold zFB
    rw [sh_X9_findBest_L30, zkr_t (by omega) (by omega), if_neg (by omega), zkr_t (by omega) (by omega), if_pos (by omega), x1, Option.bind_some]
  | succ m ih =>
    intro d a b lv ch bt tr B hd W hb R hg0 hs hc hcd hB hM
    obtain ⟨T, lv', ch', bt', x1, x2, x3, x4, x5⟩ := fb_inner (F := F) (tr := tr) hF hh hw hn4 (show d + (m + 2) = n by omega) W (by omega) (g0 := g0) (by omega) (fun a' b' lv ch bt tr' B W' hb' R' hg' hs' hc' hcd' hB' hM' => ih (d + 1) a' b' lv ch bt tr' B (by omega) W' (by omega) R' hg' (by omega) hc' hcd' hB' hM') (h * w) 0 lv ch bt B (by omega) R hg0 hc (by rw [hcd]; decide) hB hM
    refine ⟨T, lv', ch', bt', Nat.le_trans x1 ?_, x2, x3, x4, x5⟩
    rw [bnd]
    exact Nat.add_le_add_right (Nat.mul_le_mul_right _ hn) 1
theorem bnd4 : ∀ n, n ≤ 4 → bnd n ≤ 9000 := by decide
def bs_0 (n w k : Nat) (a : zAb) : zBst := bs n w k 0 0 (fun _ => -9) a (-9, fun _ => -9)
theorem Rm.best {F h w : Nat} {f : Nat → Int} {b : Int} {a : zAb} (hF : 10000 ≤ F) (hh : 1 ≤ h ∧ h ≤ 4) (hw : 1 ≤ w ∧ w ≤ 4) (R : Rm (h * w) 0 f a) (W : ab_wf (h * w) w b a) (hb : b ≤ 199900) {n : Nat} (hn : 1 ≤ n ∧ n ≤ 4) (lv ch bt : Nat → Int) : ∃ lv' ch' bt', sh_X9_findBest F (h : Int) (w : Int) f lv ch bt (n : Int) = some (lv', ch', bt') ∧ zMB n bt' (bs_0 (h * w) w n a) := by
  have hn16 := gz_n16 hh.2 hw.2
  have ec : sh_X9_copy F f lv 243 972 (0 : Int) (0 : Int) = some (cp_of f lv 0 0) := m_copy (o1 := 0) (o2 := 0) (by omega) (by omega) (by omega)
  have R1 : Rm (h * w) (243 * 0) (cp_of f lv 0 0) a := R.cp hn16
  have hgs : (cp_of f lv 0 0) 242 = ab_gs a := by
    have := R1.2.2.2
    exact this
  obtain ⟨m, rfl⟩ : ∃ m, n = m + 1 := ⟨n - 1, by omega⟩
  obtain ⟨T, lv', ch', bt', x1, x2, x3, x4, x5⟩ := fb_all (F := F) (by omega) hh hw hn.2 m 0 a b (cp_of f lv 0 0) (va_up ch 0 (-1)) (va_up bt 4 (-9)) (fun _ => -9) ((-9 : Int), fun _ => (-9 : Int)) (by omega) W (by omega) R1 hgs (by omega) (fun j hj => absurd hj (Nat.not_lt_zero _)) (up_s _ _ _) ⟨by decide, by decide⟩ ⟨up_s _ _ _, fun z => absurd rfl z⟩
  have hT := Nat.le_trans x1 (bnd4 (m + 1) hn.2)
  refine ⟨lv', ch', bt', ?_, ?_⟩
  · unfold sh_X9_findBest
    rw [ec, Option.bind_some]
    have := x2 (F - T)
    rw [show F - T + T = F by omega] at this
    refine Eq.trans this ?_
    unfold zFB
    obtain ⟨M, hM⟩ : ∃ M, F - T = M + 1 := ⟨F - T - 1, by omega⟩
    rw [hM, sh_X9_findBest_L30, zkr_t (by decide) (by decide), if_pos (by decide)]
  · rw [show ab_gs a - ab_gs a = 0 by omega] at x5
    exact x5
