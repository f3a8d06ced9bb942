/-! THE CAVE, away from its cells: columns, drawn numbers, hung points, bound, sums -/
abbrev zAb : Type := (Nat → zSl) × (Nat → Int) × (Nat → Bool) × Int × Int × Int
def ab_col (a : zAb) : Nat → zSl := a.1
def ab_dr (a : zAb) : Nat → Int := a.2.1
def ab_hg (a : zAb) : Nat → Bool := a.2.2.1
def ab_lim (a : zAb) : Int := a.2.2.2.1
def ab_bs (a : zAb) : Int := a.2.2.2.2.1
def ab_gs (a : zAb) : Int := a.2.2.2.2.2
/-- sound: columns as the document has them, drawn numbers within the bound, all numbers at most b (grades: 9 b) -/
def ab_wf (n w : Nat) (b : Int) (a : zAb) : Prop := (∀ p, p < n → ab_ok (ab_col a p) ∧ 0 ≤ ab_dr a p ∧ ab_dr a p ≤ b) ∧ (∀ p q, p < n → q < n → gz_dist w p q = 1 → ab_dr a p - ab_dr a q ≤ ab_lim a) ∧ (1 ≤ ab_lim a ∧ ab_lim a ≤ 9) ∧ (0 ≤ ab_bs a ∧ ab_bs a ≤ b) ∧ (0 ≤ ab_gs a ∧ ab_gs a ≤ 9 * b)
theorem ab_wf.mono {n w : Nat} {b b' : Int} {a : zAb} (h : ab_wf n w b a) (hb : b ≤ b') : ab_wf n w b' a :=
  ⟨fun p hp => ⟨(h.1 p hp).1, (h.1 p hp).2.1, by have := (h.1 p hp).2.2; omega⟩, h.2.1, h.2.2.1, by have := h.2.2.2.1; omega, by have := h.2.2.2.2; omega⟩
/-- the class's cells hold a -/
def Rc (n : Nat) (bk gr ht dr : Nat → Int) (lim hs bs gs : Int) (a : zAb) : Prop := (∀ p, p < n → (0 ≤ ht p ∧ ht p ≤ 6) ∧ cl_of bk gr (6 * p) (ht p).toNat = ab_col a p ∧ dr p = ab_dr a p ∧ hs.toNat.testBit p = ab_hg a p) ∧ (0 ≤ hs ∧ hs.toNat < 2 ^ n) ∧ lim = ab_lim a ∧ bs = ab_bs a ∧ gs = ab_gs a
def ab_slack (n w : Nat) (a : zAb) (p : Nat) : Int := if ab_hg a p then 0 else gz_min (ab_left (ab_col a p)) (fun q => ab_lim a + ab_dr a q - ab_dr a p) (gz_nb n w p)
theorem gz_min_congr {f g : Nat → Int} : ∀ (l : List Nat) (v : Int), (∀ q ∈ l, f q = g q) → gz_min v f l = gz_min v g l
  | [], _, _ => rfl
  | q :: l, v, h => by
    rw [gz_min, gz_min, h q List.mem_cons_self]
    exact gz_min_congr l _ (fun x hx => h x (List.mem_cons_of_mem _ hx))
theorem ab_slack_rng {n w : Nat} {b : Int} {a : zAb} (hw : ab_wf n w b a) {p : Nat} (hp : p < n) : 0 ≤ ab_slack n w a p ∧ ab_slack n w a p ≤ 54 := by
  unfold ab_slack
  have hl := ab_left_rng (hw.1 p hp).1
  split
  · omega
  · refine ⟨(gz_min_rng (lo := 0) (hi := 1000000000) _ _ (by omega) (fun q hq => ?_)).1, Int.le_trans (gz_min_le _ _) hl.2⟩
    have hq' := gz_nb_mem.mp hq
    have h1 := hw.2.1 p q hp hq'.1 hq'.2
    have h2 := hw.2.1 q p hq'.1 hp (by rw [gz_sym]; exact hq'.2)
    have := hw.2.2.1
    omega
theorem ab_left_pos {l : zSl} (h : ab_ok l) : ab_left l = 0 ↔ l = [] := by
  have := ab_left_le h.2
  constructor
  · intro h0
    cases l with
    | nil => rfl
    | cons x l => rw [List.length_cons] at this; omega
  · rintro rfl; rfl
section RC
variable {F h w : Nat} {size : Int} {ro co ne nc : Nat → Int} {bk gr ht dr : Nat → Int} {lim hs bs gs b : Int} {a : zAb}
theorem Rc.ok (R : Rc (h * w) bk gr ht dr lim hs bs gs a) (W : ab_wf (h * w) w b a) {p : Nat} (hp : p < h * w) : ∀ x ∈ cl_of bk gr (6 * p) (ht p).toNat, 1 ≤ x.1 ∧ x.1 ≤ 9 ∧ 0 ≤ x.2 ∧ x.2 ≤ 9 := by
  rw [(R.1 p hp).2.1]; exact (W.1 p hp).1.2
theorem Rc.hs16 (R : Rc (h * w) bk gr ht dr lim hs bs gs a) (hn : h * w ≤ 16) : hs.toNat < 2 ^ 16 ∧ hs = ((hs.toNat : Nat) : Int) := by
  refine ⟨Nat.lt_of_lt_of_le R.2.1.2 (Nat.pow_le_pow_right (by decide) hn), ?_⟩
  have := R.2.1.1; omega
theorem Rc.left (hF : 20 ≤ F) (R : Rc (h * w) bk gr ht dr lim hs bs gs a) (hn : h * w ≤ 16) {p : Nat} (hp : p < h * w) : sh_X0_leftIn F bk ht (p : Int) = some (ab_left (ab_col a p)) := by
  have r := R.1 p hp
  rw [c_leftIn F p bk gr ht (by omega) (by omega) r.1.1 r.1.2, r.2.1]
theorem Rc.grade (hF : 20 ≤ F) (R : Rc (h * w) bk gr ht dr lim hs bs gs a) (W : ab_wf (h * w) w b a) (hn : h * w ≤ 16) {p : Nat} (hp : p < h * w) {i : Int} (hi : 0 ≤ i ∧ i ≤ 900) : sh_X0_gradeOf F bk gr ht (p : Int) i = some (ab_grade (ab_col a p) i) := by
  have r := R.1 p hp
  rw [c_gradeOf F p i bk gr ht (by omega) (by omega) r.1.1 r.1.2 (by omega) (R.ok W hp), r.2.1]
theorem Rc.waste (hF : 20 ≤ F) (R : Rc (h * w) bk gr ht dr lim hs bs gs a) (W : ab_wf (h * w) w b a) (hn : h * w ≤ 16) {p : Nat} (hp : p < h * w) {g : Int} (hg : 0 ≤ g ∧ g ≤ 1000) : sh_X0_bucketsAboveWaste F bk gr ht (p : Int) g = some (ab_waste (ab_col a p) g 0) := by
  have r := R.1 p hp
  rw [c_waste F p g bk gr ht (by omega) (by omega) r.1.1 r.1.2 hg (R.ok W hp), r.2.1]
theorem Rc.hangs (R : Rc (h * w) bk gr ht dr lim hs bs gs a) (hn : h * w ≤ 16) {p : Nat} (hp : p < h * w) : sh_X0_hangs F hs (p : Int) = some (if ab_hg a p then 1 else 0) := by
  obtain ⟨h1, h2⟩ := R.hs16 hn
  rw [h2, c_hangs F hs.toNat p h1 (by omega), (R.1 p hp).2.2.2]
theorem Rc.room (hF : 20 ≤ F) (G : gz_ok h w size ro co ne nc) (R : Rc (h * w) bk gr ht dr lim hs bs gs a) (W : ab_wf (h * w) w b a) (hb : b ≤ 200000) {p : Nat} (hp : p < h * w) {l2 : Int} (hl2 : 0 ≤ l2 ∧ l2 ≤ 9) : sh_X2_room F ne nc dr 16 (p : Int) l2 = some (gz_min 54 (fun q => l2 + ab_dr a q - ab_dr a p) (gz_nb (h * w) w p)) := by
  have rng : ∀ q, q < h * w → 0 ≤ dr q ∧ dr q ≤ 200000 := fun q hq => by
    rw [(R.1 q hq).2.2.1]; have := W.1 q hq; omega
  rw [c_room F h w p l2 size ro co ne nc dr (by omega) G hp (fun q hq => by have := rng q hq; have := rng p hp; omega)]
  congr 1
  refine gz_min_congr _ _ (fun q hq => ?_)
  rw [(R.1 q (gz_nb_mem.mp hq).1).2.2.1, (R.1 p hp).2.2.1]
theorem Rc.slack (hF : 20 ≤ F) (G : gz_ok h w size ro co ne nc) (R : Rc (h * w) bk gr ht dr lim hs bs gs a) (W : ab_wf (h * w) w b a) (hb : b ≤ 200000) {p : Nat} (hp : p < h * w) : sh_X0_slackOf F lim hs bk ht dr ne nc (p : Int) = some (ab_slack (h * w) w a p) := by
  have hn := gz_n16 G.2.1 G.2.2.2.1
  have hl := ab_left_rng (W.1 p hp).1
  have hs := ab_slack_rng W hp
  have hlim := W.2.2.1
  unfold sh_X0_slackOf
  rw [R.hangs hn hp, Option.bind_some]
  unfold ab_slack at *
  by_cases hh : ab_hg a p = true
  · simp (disch := omega) only [hh, if_true, zkr_t, if_neg]
  · simp only [Bool.not_eq_true] at hh
    simp only [hh, Bool.false_eq_true, if_false] at hs
    simp (disch := omega) only [hh, Bool.false_eq_true, if_false, zkr_t, if_pos, R.left hF hn hp, Option.bind_some]
    rw [R.2.2.1, R.room hF G W hb hp (by omega), Option.bind_some]
    have hm : zmin (ab_left (ab_col a p)) (gz_min 54 (fun q => ab_lim a + ab_dr a q - ab_dr a p) (gz_nb (h * w) w p)) = gz_min (ab_left (ab_col a p)) (fun q => ab_lim a + ab_dr a q - ab_dr a p) (gz_nb (h * w) w p) := by
      rw [gz_min_start]; congr 1; unfold zmin; rw [if_neg (by omega)]
    have hr := gz_min_rng (lo := -1000000) (hi := 2147483647) (f := fun q => ab_lim a + ab_dr a q - ab_dr a p) (gz_nb (h * w) w p) 54 (by decide) (fun q hq => by
      have h1 := W.1 q (gz_nb_mem.mp hq).1; have h2 := W.1 p hp; omega)
    rw [hm, if_pos trivial, zkr_t (by omega) (by omega), zkr_t (by omega) (by omega)]
    refine congrArg some ?_
    generalize gz_min (ab_left (ab_col a p)) (fun q => ab_lim a + ab_dr a q - ab_dr a p) (gz_nb (h * w) w p) = M at *
    unfold zmax
    split <;> omega
theorem Rc.ready (hF : 20 ≤ F) (G : gz_ok h w size ro co ne nc) (R : Rc (h * w) bk gr ht dr lim hs bs gs a) (W : ab_wf (h * w) w b a) (hb : b ≤ 200000) {p : Nat} (hp : p < h * w) : sh_X0_ready F lim hs bk ht dr ne nc (p : Int) = some (if 0 < ab_slack (h * w) w a p then 1 else 0) := by
  have hs := ab_slack_rng W hp
  unfold sh_X0_ready
  rw [R.slack hF G W hb hp, Option.bind_some, zkr_t (by omega) (by omega)]
  split <;> rfl
end RC
