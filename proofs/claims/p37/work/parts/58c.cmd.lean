def ab_cmd (n w : Nat) (a : zAb) (c : Nat) : Option zAb :=
  if c / 1000 = 6 then (if 1 ≤ c % 1000 ∧ c % 1000 ≤ 99 then (if (ab_go n w (c % 1000) a).1 = ((c % 1000 : Nat) : Int) then some (ab_go n w (c % 1000) a).2 else none) else none)
  else if c / 10 % 100 < n then
    (if c / 1000 = 1 then (if 0 < c % 10 then ab_many n w (c / 10 % 100) (c % 10) a else none)
    else if c / 1000 = 2 then (if c % 10 = 0 then (if ab_hg a (c / 10 % 100) = false then some (ab_flip a (c / 10 % 100)) else none) else none)
    else if c / 1000 = 3 then (if c % 10 = 0 then (if ab_hg a (c / 10 % 100) = true then some (ab_flip a (c / 10 % 100)) else none) else none)
    else if c / 1000 = 4 then (if ab_slack n w a (c / 10 % 100) = ((c % 10 : Nat) : Int) then some a else none)
    else if c / 1000 = 5 then (if ab_grade (ab_col a (c / 10 % 100)) 0 < ((c % 10 : Nat) : Int) then none else some a)
    else none)
  else none
theorem ab_cmd_wf {n w : Nat} {b : Int} {a a' : zAb} {c : Nat} (W : ab_wf n w b a) (h : ab_cmd n w a c = some a') : ab_wf n w (b + 100) a' := by
  unfold ab_cmd at h
  split at h
  · split at h
    · split at h
      · injection h with h
        subst h
        exact (ab_go_rng _ b a W).2.mono (by omega)
      · cases h
    · cases h
  · split at h
    · rename_i hp
      split at h
      · split at h
        · exact (ab_many_wf hp _ b a a' W h).mono (by omega)
        · cases h
      · split at h
        · split at h
          · split at h
            · injection h with h
              subst h
              exact (ab_flip_wf W _).mono (by omega)
            · cases h
          · cases h
        · split at h
          · split at h
            · split at h
              · injection h with h
                subst h
                exact (ab_flip_wf W _).mono (by omega)
              · cases h
            · cases h
          · split at h
            · split at h
              · injection h with h
                subst h
                exact W.mono (by omega)
              · cases h
            · split at h
              · split at h
                · cases h
                · injection h with h
                  subst h
                  exact W.mono (by omega)
              · cases h
    · cases h
theorem c_cmd {F h w : Nat} {size : Int} {ro co ne nc : Nat → Int} {bk gr ht dr : Nat → Int} {lim hs bs gs b : Int} {a : zAb} (hF : 5000 ≤ F) (G : gz_ok h w size ro co ne nc) (R : Rc (h * w) bk gr ht dr lim hs bs gs a) (W : ab_wf (h * w) w b a) (hb : b + 100 ≤ 200000) {c : Nat} (hc : c < 10000) : ∃ r hs' bs' gs' bk' gr' ht' dr', sh_X5_succeeds F size ne nc lim hs bs gs bk gr ht dr (c : Int) = some (r, hs', bs', gs', bk', gr', ht', dr') ∧ match ab_cmd (h * w) w a c with
    | some a' => r = 1 ∧ Rc (h * w) bk' gr' ht' dr' lim hs' bs' gs' a'
    | none => r = 0 := by
  have hn := gz_n16 G.2.1 G.2.2.2.1
  have d1 : zdiv (c : Int) (1000 : Int) = ((c / 1000 : Nat) : Int) := dv_n c 1000
  have d2 : zmod (c : Int) (1000 : Int) = ((c % 1000 : Nat) : Int) := md_n c 1000
  have d3 : zdiv (c : Int) (10 : Int) = ((c / 10 : Nat) : Int) := dv_n c 10
  have d4 : zmod ((c / 10 : Nat) : Int) (100 : Int) = ((c / 10 % 100 : Nat) : Int) := md_n (c / 10) 100
  have d5 : zmod (c : Int) (10 : Int) = ((c % 10 : Nat) : Int) := md_n c 10
  have e1 := c_has F h w size ((c / 10 % 100 : Nat) : Int) ro co ne nc G (by omega)
  unfold sh_X5_succeeds ab_cmd
  rw [d1, d2, d3, d4, d5, e1, Option.bind_some, zkr_t (by omega) (by omega), zkr_t (by omega) (by omega)]
  by_cases k6 : c / 1000 = 6
  · rw [if_pos (by omega), if_pos k6, zkr_t (by omega) (by omega)]
    by_cases m1 : c % 1000 < 1
    · rw [if_pos (by omega), if_neg (by omega)]
      exact ⟨_, _, _, _, _, _, _, _, rfl, rfl⟩
    · rw [if_neg (by omega)]
      by_cases m2 : 99 < c % 1000
      · rw [if_pos (by omega), if_neg (by omega)]
        exact ⟨_, _, _, _, _, _, _, _, rfl, rfl⟩
      · rw [if_neg (by omega), if_pos (by omega)]
        obtain ⟨bs1, gs1, bk1, gr1, ht1, dr1, u1, u2⟩ := R.go hF G W (c % 1000) (by omega) (by omega)
        have g := ab_go_rng (c % 1000) b a W
        rw [u1, Option.bind_some, zkr_t (by omega) (by omega)]
        by_cases q : (ab_go (h * w) w (c % 1000) a).1 = ((c % 1000 : Nat) : Int)
        · rw [if_pos q, if_pos q]
          exact ⟨_, _, _, _, _, _, _, _, rfl, rfl, u2⟩
        · rw [if_neg q, if_neg q]
          exact ⟨_, _, _, _, _, _, _, _, rfl, rfl⟩
  · rw [if_neg (by omega), if_neg k6, zkr_t (by omega) (by omega)]
    by_cases kp : c / 10 % 100 < h * w
    · rw [if_pos (show 0 ≤ ((c / 10 % 100 : Nat) : Int) ∧ ((c / 10 % 100 : Nat) : Int) < ((h * w : Nat) : Int) by omega), if_pos kp, zkr_t (by omega) (by omega), if_neg (by omega)]
      generalize hpp : c / 10 % 100 = p at *
      by_cases k1 : c / 1000 = 1
      · rw [if_pos (by omega), if_pos k1]
        obtain ⟨r, bs1, gs1, bk1, gr1, ht1, dr1, u1, u2⟩ := c_many_L (F := F) (P := c % 10) (lim := lim) (hs := hs) (by omega) (by omega) G kp (c % 10) F 0 bk gr ht dr bs gs b a R W (by omega) (by omega) (by omega)
        have u1' : sh_X5_drawsAll F ne nc lim hs bs gs bk gr ht dr (p : Int) ((c % 10 : Nat) : Int) = _ := u1
        rw [u1', Option.bind_some]
        generalize (if 0 < c % 10 then ab_many (h * w) w p (c % 10) a else none) = O at u2
        cases O with
        | none =>
          refine ⟨r, _, _, _, _, _, _, _, zkc_t (Or.inl u2), u2⟩
        | some a' =>
          refine ⟨r, _, _, _, _, _, _, _, zkc_t (Or.inr u2.1), u2⟩
      · rw [if_neg (by omega), if_neg k1]
        by_cases k2 : c / 1000 = 2
        · rw [if_pos (by omega), if_pos k2, zkr_t (by omega) (by omega)]
          by_cases l0 : c % 10 = 0
          · rw [if_pos (by omega), if_pos l0]
            unfold sh_X5_turns
            rw [R.hangs hn kp, Option.bind_some]
            cases hh : ab_hg a p with
            | true =>
              rw [if_pos rfl, if_neg (by decide)]
              exact ⟨_, _, _, _, _, _, _, _, rfl, rfl⟩
            | false =>
              rw [if_neg (by decide), if_pos rfl]
              obtain ⟨hs', u1, u2⟩ := R.flip (F := F) hn kp
              rw [u1]
              exact ⟨_, _, _, _, _, _, _, _, rfl, rfl, u2⟩
          · rw [if_neg (by omega), if_neg l0]
            exact ⟨_, _, _, _, _, _, _, _, rfl, rfl⟩
        · rw [if_neg (by omega), if_neg k2]
          by_cases k3 : c / 1000 = 3
          · rw [if_pos (by omega), if_pos k3, zkr_t (by omega) (by omega)]
            by_cases l0 : c % 10 = 0
            · rw [if_pos (by omega), if_pos l0]
              unfold sh_X5_turns
              rw [R.hangs hn kp, Option.bind_some]
              cases hh : ab_hg a p with
              | false =>
                rw [if_neg (by decide), if_neg (by decide)]
                exact ⟨_, _, _, _, _, _, _, _, rfl, rfl⟩
              | true =>
                rw [if_pos rfl, if_pos rfl]
                obtain ⟨hs', u1, u2⟩ := R.flip (F := F) hn kp
                rw [u1]
                exact ⟨_, _, _, _, _, _, _, _, rfl, rfl, u2⟩
            · rw [if_neg (by omega), if_neg l0]
              exact ⟨_, _, _, _, _, _, _, _, rfl, rfl⟩
          · rw [if_neg (by omega), if_neg k3]
            by_cases k4 : c / 1000 = 4
            · have hs4 := ab_slack_rng W kp
              rw [if_pos (by omega), if_pos k4, R.slack (by omega) G W (by omega) kp, Option.bind_some, zkr_t (by omega) (by omega), zkr_t (by omega) (by omega)]
              by_cases q : ab_slack (h * w) w a p = ((c % 10 : Nat) : Int)
              · rw [if_pos q, if_pos q]
                exact ⟨_, _, _, _, _, _, _, _, rfl, rfl, R⟩
              · rw [if_neg q, if_neg q]
                exact ⟨_, _, _, _, _, _, _, _, rfl, rfl⟩
            · rw [if_neg (by omega), if_neg k4]
              by_cases k5 : c / 1000 = 5
              · have hg := ab_grade_rng (W.1 p kp).1.2 0
                rw [if_pos (by omega), if_pos k5, R.grade (by omega) W hn kp (i := 0) (by omega), Option.bind_some, zkr_t (by omega) (by omega), zkr_t (by omega) (by omega)]
                by_cases q : ab_grade (ab_col a p) 0 < ((c % 10 : Nat) : Int)
                · rw [if_pos q, if_pos q]
                  exact ⟨_, _, _, _, _, _, _, _, rfl, rfl⟩
                · rw [if_neg q, if_neg q]
                  exact ⟨_, _, _, _, _, _, _, _, rfl, rfl, R⟩
              · rw [if_neg (by omega), if_neg k5]
                exact ⟨_, _, _, _, _, _, _, _, rfl, rfl⟩
    · rw [if_neg (show ¬ (0 ≤ ((c / 10 % 100 : Nat) : Int) ∧ ((c / 10 % 100 : Nat) : Int) < ((h * w : Nat) : Int)) by omega), if_neg kp, zkr_t (by omega) (by omega), if_pos rfl]
      exact ⟨_, _, _, _, _, _, _, _, rfl, rfl⟩