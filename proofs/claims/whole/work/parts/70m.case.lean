/-! CALL load -/
section CASES
variable {F h w : Nat} {size : Int} {ro co ne nc : Nat → Int} {bk gr ht dr now D fl ik K sg sc : Nat → Int} {lim hs bs gs b tl sz : Int} {a : zAb} {o c nx : Nat} {P : Nat → zCv}
theorem k_load (hF : 20000 ≤ F) (T : zTX tl sz sg sc) (G : gz_ok h w size ro co ne nc) (R : Rc (h * w) bk gr ht dr lim hs bs gs a) (M : Rm (h * w) 0 now a) (W : ab_wf (h * w) w b a) (hb : 0 ≤ b ∧ b ≤ 100000) (H : zHR (h * w) w b P o c D nx) (S : zSR (h * w) w b P fl ik K) (rh rw0 : Int) (rd out : Nat → Int) : ∃ size' ro' co' ne' nc' lim' hs' bs' gs' bk' gr' ht' dr' fl' rf sp' rh' rw' now' ik' rd' out' a', ∃ h' w' o' c' : Nat, sh_L_case3 F size ro co ne nc lim hs bs gs bk gr ht dr tl sg (o : Int) (c : Int) fl (h : Int) (w : Int) (c : Int) sz rh rw0 now ik sc rd out = some (size', ro', co', ne', nc', lim', hs', bs', gs', bk', gr', ht', dr', (o' : Int), (c' : Int), fl', rf, (h' : Int), (w' : Int), (c' : Int), sp', rh', rw', now', ik', rd', out') ∧ gz_ok h' w' size' ro' co' ne' nc' ∧ Rc (h' * w') bk' gr' ht' dr' lim' hs' bs' gs' a' ∧ Rm (h' * w') 0 now' a' ∧ ab_wf (h' * w') w' b a' ∧ zHR (h' * w') w' b P o' c' D nx ∧ zSR (h' * w') w' b P fl' ik' K := by
  obtain ⟨L, rfl, rfl, hL, h0⟩ := T
  obtain ⟨t1, t2, t3⟩ := zTX.ok hL h0
  have e1 := c_findError (F := F) (by omega) t2
  rw [tx_cg t3] at e1
  obtain ⟨sp, rh', rw', rd', e2, e3⟩ := m_read (F := F) (by omega) t1 rh rw0 rd
  have rg := tx_err_rng (s := sc) hL
  unfold sh_L_case3
  by_cases he : tx_err L sc = -9
  · obtain ⟨h', w', b', r, hh, hw, hb', s1, s2, s3, hps, rfl, rfl, M'⟩ := e3 he
    rw [he] at e1 e2
    have s1' : sg_of L sg 1 - 48 = (h' : Int) := by rw [t3]; exact s1
    have s2' : sg_of L sg 2 - 48 = (w' : Int) := by rw [t3]; exact s2
    have s3' : sg_of L sg 3 - 48 = b' := by rw [t3]; exact s3
    have hps' : ps L sg (h' * w') 4 = .inr r := by rw [ps_cg t3]; exact hps
    obtain ⟨ro', co', ne', nc', bk', gr', ht', dr', b1, G', R'⟩ := c_build (F := F) (by omega) t2 hh hw hb' s1' s2' s3' hps' ro co ne nc bk gr ht dr
    have hL4 : 4 ≤ L := by have := sg_in (L := L) (s := sc) (j := 3) (by omega); omega
    have ok := ((ps_le (L := L) (s := sc) (h' * w') 4 hL4).2 r hps).2.2
    have W' := ab_new_wf (n := h' * w') (w := w') (c := b) ok hb' hb.1
    have hn16 := gz_n16 hh.2 hw.2
    have ec : sh_X9_copy F rd' now 243 243 (0 : Int) (0 : Int) = some (cp_of rd' now 0 0) := m_copy (F := F) (f := rd') (g := now) (n0 := 243) (n2 := 243) (o1 := 0) (o2 := 0) (by omega) (by omega) (by omega)
    have gg : -2147483648 ≤ ((h' * w' : Nat) : Int) ∧ ((h' * w' : Nat) : Int) ≤ 2147483647 := by
      generalize h' * w' = N at hn16
      omega
    have e4 : sh_X8_load F size ro co ne nc lim hs bs gs bk gr ht dr (L : Int) sg (o : Int) (c : Int) fl = some (0, ((h' * w' : Nat) : Int), ((h' * w' : Nat) : Int), ro', co', ne', nc', b', 0, 0, 0, bk', gr', ht', dr', 0, 0, va_up (va_up fl 0 0) 1 0) := by
      unfold sh_X8_load sh_X4_forget sh_X2_size
      rw [e1, Option.bind_some, zkr_t (by decide) (by decide), if_pos rfl, b1, Option.bind_some, Option.bind_some, c_forget7 (by omega), Option.bind_some, Option.bind_some]
    have e5 : sh_X9_load F (h : Int) (w : Int) (c : Int) (L : Int) rh rw0 now ik sc rd = some (((h' * w' : Nat) : Int), 0, (h' : Int), (w' : Int), 0, sp, (h' : Int), (w' : Int), cp_of rd' now 0 0, va_up (va_up ik 0 0) 1 0, rd') := by
      unfold sh_X9_load
      rw [e2, Option.bind_some]
      dsimp only
      rw [zkr_t (by decide) (by decide), if_pos rfl, rf_0, Option.bind_some]
      dsimp only
      rw [zkr_t (by decide) (by decide), if_pos rfl, ec, Option.bind_some, m_points, Option.bind_some]
      rfl
    have e6 : sh_L_load F size ro co ne nc lim hs bs gs bk gr ht dr (L : Int) sg (o : Int) (c : Int) fl out 1 = some (0, ((h' * w' : Nat) : Int), ro', co', ne', nc', b', 0, 0, 0, bk', gr', ht', dr', 0, 0, va_up (va_up fl 0 0) 1 0, va_up out 0 ((h' * w' : Nat) : Int)) := by
      unfold sh_L_load
      rw [e4, Option.bind_some]
      exact wl_0 gg
    refine ⟨_, ro', co', ne', nc', b', 0, 0, 0, bk', gr', ht', dr', va_up (va_up fl 0 0) 1 0, 0, sp, (h' : Int), (w' : Int), cp_of rd' now 0 0, va_up (va_up ik 0 0) 1 0, rd', va_up out 0 ((h' * w' : Nat) : Int), ab_new r.2 b', h', w', 0, 0, ?_, G', R', M'.cp hn16, W', zHR.zero H.2.2.1, fun s hs => ?_⟩
    · rw [e6, Option.bind_some, e5, Option.bind_some]
      dsimp only
      exact tl_0 rfl gg
    · have : s = 0 ∨ s = 1 := by omega
      rcases this with rfl | rfl
      · exact ⟨rfl, Or.inl rfl⟩
      · exact ⟨rfl, Or.inl rfl⟩
  · have e4 : sh_X8_load F size ro co ne nc lim hs bs gs bk gr ht dr (L : Int) sg (o : Int) (c : Int) fl = some (3, 0, size, ro, co, ne, nc, lim, hs, bs, gs, bk, gr, ht, dr, (o : Int), (c : Int), fl) := by
      unfold sh_X8_load
      rw [e1, Option.bind_some, zkr_t (by omega) (by omega), if_neg he]
    have e5 : sh_X9_load F (h : Int) (w : Int) (c : Int) (L : Int) rh rw0 now ik sc rd = some (0, 1, (h : Int), (w : Int), (c : Int), sp, rh', rw', now, ik, rd') := by
      unfold sh_X9_load
      rw [e2, Option.bind_some]
      dsimp only
      rw [zkr_t (by omega) (by omega), if_neg he, rf_1, Option.bind_some]
      dsimp only
      rw [zkr_t (by decide) (by decide), if_neg (by decide)]
    have e6 : sh_L_load F size ro co ne nc lim hs bs gs bk gr ht dr (L : Int) sg (o : Int) (c : Int) fl out 1 = some (1, size, ro, co, ne, nc, lim, hs, bs, gs, bk, gr, ht, dr, (o : Int), (c : Int), fl, out) := by
      unfold sh_L_load
      rw [e4, Option.bind_some]
      exact wl_3
    refine ⟨size, ro, co, ne, nc, lim, hs, bs, gs, bk, gr, ht, dr, fl, 1, sp, rh', rw', now, ik, rd', out, a, h, w, o, c, ?_, G, R, M, W, H, S⟩
    rw [e6, Option.bind_some, e5, Option.bind_some]
    dsimp only
    exact tl_z (by decide) (by decide)
end CASES
