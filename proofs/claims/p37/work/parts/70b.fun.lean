/-! WHAT EACH CALL ANSWERS AND LEAVES, said of the object: f_ in general, kx_ where the call is in order, kn_ where it doesn't throw, kt_ where it throws, kd_ without arguments -/
noncomputable def kx {α : Type} (c : Prop) (v : α) : Option α := @ite (Option α) c (Classical.propDecidable c) (some v) none
theorem kx_t {α : Type} {c : Prop} {v : α} (h : c) : kx c v = some v := if_pos h
theorem kx_p {α : Type} {c : Prop} {v r : α} (h : kx c v = some r) : c ∧ v = r := by
  unfold kx at h
  split at h
  · exact ⟨by assumption, Option.some.inj h⟩
  · cases h
def i32 (x : Int) : Prop := -2147483648 ≤ x ∧ x ≤ 2147483647
noncomputable def fi {α : Type} (c : Prop) (u v : α) : α := @ite α c (Classical.propDecidable c) u v
theorem fi_t {α : Type} {c : Prop} {u v : α} (h : c) : fi c u v = u := if_pos h
theorem fi_f {α : Type} {c : Prop} {u v : α} (h : ¬ c) : fi c u v = v := if_neg h
-- values
def v_slack (A : zO) (p : Int) : Int := ab_slack (onn A) (ow A) (oa A) p.toNat
def v_ready (A : zO) (p : Int) : Int := if 0 < v_slack A p then 1 else 0
def v_blockers (A : zO) (p : Int) : Int := ab_blockers (onn A) (ow A) (oa A) p.toNat
def v_most (A : zO) (p : Int) : Int := ab_most (onn A) (ow A) (oa A) p.toNat 54 0
def v_few (A : zO) (p k : Int) : Int := ab_fewest (onn A) (ow A) (oa A) p.toNat k
def v_waste (A : zO) (p g : Int) : Int := ab_waste (ab_col (oa A) p.toNat) g 0
def v_next (A : zO) : Int := ab_next (onn A) (ow A) (oa A)
def v_ahead (A : zO) (i : Int) : Int := ab_next (onn A) (ow A) (ab_go (onn A) (ow A) i.toNat (oa A)).2
def v_best (A : zO) (n i : Int) : Int := if i = n then (bs_0 (onn A) (ow A) n.toNat (oa A)).1 else (bs_0 (onn A) (ow A) n.toNat (oa A)).2 i.toNat
def v_org (A : zO) (m g : Int) : Int := ab_org (onn A) (oa A) (og_d g.toNat m.toNat) m.toNat
def v_scr (A : zO) (n x : Int) : Int := ab_scr (onn A) (ow A) x.toNat n.toNat n.toNat 0 (oa A)
def v_sim (A : zO) (x m : Int) : Int := ab_gs (ab_sim (onn A) (ow A) m.toNat x (oa A)) - ab_gs (oa A)
def v_err (A : zO) : Int := tx_err (oL A) (oS A)
-- states
def s_text (A : zO) (L : Nat) (S : Nat → Int) : zO := (oh A, ow A, oa A, (oc A, oH A), os A, L, S)
def s_append (A : zO) (c : Int) : zO := s_text A (oL A + 1) (va_up (oS A) (oL A) c)
def s_draw (A : zO) (p : Int) : zO := s_act A (ab_take (oa A) p.toNat)
def s_go (A : zO) (k : Int) : zO := s_act A (ab_go (onn A) (ow A) k.toNat (oa A)).2
def s_flip (A : zO) (p : Int) : zO := s_act A (ab_flip (oa A) p.toNat)
def s_undo (A : zO) : zO := oset A (oH A (oc A - 1)) (oc A - 1, oH A)
def s_save (A : zO) (s : Int) : zO := (oh A, ow A, oa A, (oc A, oH A), (fun j => if j = s.toNat then some (oa A) else os A j), oL A, oS A)
def s_restore (A : zO) (a : zAb) : zO := oset A a (0, oH A)
def tx_cols : zTy → List zSl
  | .inl _ => []
  | .inr r => r.2
def s_load (A : zO) : zO :=
  let h := (sg_of (oL A) (oS A) 1 - 48).toNat
  let w := (sg_of (oL A) (oS A) 2 - 48).toNat
  (h, w, ab_new (tx_cols (ps (oL A) (oS A) (h * w) 4)) (sg_of (oL A) (oS A) 3 - 48), (0, oH A), (fun _ => none), oL A, oS A)
-- without arguments
noncomputable def kd_pointCount (A : zO) : Option Int := kx (zOK 90000 A) ((onn A : Nat) : Int)
noncomputable def kd_bound (A : zO) : Option Int := kx (zOK 90000 A) (ab_lim (oa A))
noncomputable def kd_totalBuckets (A : zO) : Option Int := kx (zOK 90000 A) (ab_bs (oa A))
noncomputable def kd_totalGrade (A : zO) : Option Int := kx (zOK 90000 A) (ab_gs (oa A))
noncomputable def kd_errorPosition (A : zO) : Option Int := kx (zOK 90000 A) (v_err A)
noncomputable def kd_nextByOrder (A : zO) : Option Int := kx (zOK 90000 A) (v_next A)
noncomputable def kd_clearText (A : zO) : Option (Int × zO) := kx (zOK 90000 A) (((oL A : Nat) : Int), s_text A 0 (oS A))
-- calls that don't throw
noncomputable def kn_append (A : zO) (c : Int) : Option (Int × zO) := kx (zOK 90000 A ∧ oL A < 120 ∧ 0 ≤ c ∧ c ≤ 255) (((oL A : Nat) : Int) + 1, s_append A c)
noncomputable def kn_drawn (A : zO) (p : Int) : Option Int := kx (zOK 90000 A ∧ isP A p) (ab_dr (oa A) p.toNat)
noncomputable def kn_remaining (A : zO) (p : Int) : Option Int := kx (zOK 90000 A ∧ isP A p) (ab_left (ab_col (oa A) p.toNat))
noncomputable def kn_slices (A : zO) (p : Int) : Option Int := kx (zOK 90000 A ∧ isP A p) (((ab_col (oa A) p.toNat).length : Nat) : Int)
noncomputable def kn_grade (A : zO) (p i : Int) : Option Int := kx (zOK 90000 A ∧ isP A p ∧ 0 ≤ i ∧ i ≤ 99) (ab_grade (ab_col (oa A) p.toNat) i)
noncomputable def kn_hung (A : zO) (p : Int) : Option Int := kx (zOK 90000 A ∧ isP A p) (if ab_hg (oa A) p.toNat then 1 else 0)
noncomputable def kn_draw (A : zO) (p : Int) : Option (Int × zO) := kx (zOK 90000 A ∧ isP A p ∧ 0 < v_slack A p) (ab_grade (ab_col (oa A) p.toNat) 0, s_draw A p)
noncomputable def kn_byOrder (A : zO) (k : Int) : Option (Int × zO) := kx (zOK 90000 A ∧ 1 ≤ k ∧ k ≤ 99) ((ab_go (onn A) (ow A) k.toNat (oa A)).1, s_go A k)
noncomputable def kn_undo (A : zO) : Option (Int × zO) := kx (zOK 90000 A ∧ 0 < oc A) (((oc A - 1 : Nat) : Int), s_undo A)
noncomputable def kn_ready (A : zO) (p : Int) : Option Int := kx (zOK 90000 A ∧ isP A p) (v_ready A p)
noncomputable def kn_blockers (A : zO) (p : Int) : Option Int := kx (zOK 90000 A ∧ isP A p) (v_blockers A p)
noncomputable def kn_slack (A : zO) (p : Int) : Option Int := kx (zOK 90000 A ∧ isP A p) (v_slack A p)
noncomputable def kn_ahead (A : zO) (i : Int) : Option Int := kx (zOK 90000 A ∧ 0 ≤ i ∧ i ≤ 99) (v_ahead A i)
noncomputable def kn_bucketsFor (A : zO) (p k : Int) : Option Int := kx (zOK 90000 A ∧ isP A p ∧ 1 ≤ k ∧ k ≤ 54) (v_few A p k)
noncomputable def kn_most (A : zO) (p : Int) : Option Int := kx (zOK 90000 A ∧ isP A p) (v_most A p)
noncomputable def kn_best (A : zO) (n i : Int) : Option Int := kx (zOK 90000 A ∧ (1 ≤ n ∧ n ≤ 4) ∧ 0 ≤ i ∧ i ≤ n) (v_best A n i)
noncomputable def kn_origins (A : zO) (m g : Int) : Option Int := kx (zOK 90000 A ∧ (1 ≤ m ∧ m ≤ 9) ∧ 0 ≤ g ∧ g.toNat < 10 ^ m.toNat ∧ g ≤ 2147483647) (v_org A m g)
noncomputable def kn_script (A : zO) (n x : Int) : Option Int := kx (zOK 90000 A ∧ (1 ≤ n ∧ n ≤ 4) ∧ 0 ≤ x ∧ x.toNat < 10000 ^ n.toNat) (v_scr A n x)
noncomputable def kn_simulate (A : zO) (x m : Int) : Option Int := kx (zOK 90000 A ∧ i32 x ∧ 1 ≤ m ∧ m ≤ 100) (v_sim A (x * 4294967311) m)
noncomputable def kn_save (A : zO) (s : Int) : Option (Int × zO) := kx (zOK 90000 A ∧ 0 ≤ s ∧ s ≤ 1) (ab_bs (oa A), s_save A s)
noncomputable def kn_restore (A : zO) (s : Int) : Option (Int × zO) := kx (zOK 90000 A ∧ (0 ≤ s ∧ s ≤ 1) ∧ os A s.toNat ≠ none) (ab_bs ((os A s.toNat).getD (oa A)), s_restore A ((os A s.toNat).getD (oa A)))
-- calls in general
noncomputable def f_load (A : zO) : Int × zO := if v_err A = -9 then (((onn (s_load A) : Nat) : Int), s_load A) else (-103, A)
noncomputable def f_draw (A : zO) (p : Int) : Int × zO := fi (isP A p) (if 0 < v_slack A p then (ab_grade (ab_col (oa A) p.toNat) 0, s_draw A p) else (-103, A)) (-101, A)
noncomputable def f_hang (A : zO) (p : Int) : Int × zO := fi (isP A p) (if ab_hg (oa A) p.toNat then (-103, A) else (ab_hcnt (ab_flip (oa A) p.toNat) (onn A), s_flip A p)) (-101, A)
noncomputable def f_release (A : zO) (p : Int) : Int × zO := fi (isP A p) (if ab_hg (oa A) p.toNat then (ab_hcnt (ab_flip (oa A) p.toNat) (onn A), s_flip A p) else (-103, A)) (-101, A)
noncomputable def f_add (A : zO) (p x y : Int) : Int × zO := fi (isP A p) (if (1 ≤ x ∧ x ≤ 9) ∧ 0 ≤ y ∧ y ≤ 9 then (if (ab_col (oa A) p.toNat).length < 6 then ((((ab_col (oa A) p.toNat).length + 1 : Nat) : Int), s_act A (ab_add (oa A) p.toNat x y)) else (-103, A)) else (-102, A)) (-101, A)
noncomputable def f_setBound (A : zO) (l : Int) : Int × zO := if 1 ≤ l ∧ l ≤ 9 then (if ab_fits (onn A) (ow A) (oa A) l then (ab_lim (oa A), s_act A (ab_lims (oa A) l)) else (-103, A)) else (-102, A)
noncomputable def f_undo (A : zO) : Int × zO := if 0 < oc A then (((oc A - 1 : Nat) : Int), s_undo A) else (-103, A)
noncomputable def f_restore (A : zO) (s : Int) : Int × zO := if 0 ≤ s ∧ s ≤ 1 then (match os A s.toNat with | none => (-103, A) | some a => (ab_bs a, s_restore A a)) else (-101, A)
noncomputable def f_ready (A : zO) (p : Int) : Int := fi (isP A p) (v_ready A p) (-101)
noncomputable def f_blockers (A : zO) (p : Int) : Int := fi (isP A p) (v_blockers A p) (-101)
noncomputable def f_slack (A : zO) (p : Int) : Int := fi (isP A p) (v_slack A p) (-101)
noncomputable def f_most (A : zO) (p : Int) : Int := fi (isP A p) (v_most A p) (-101)
noncomputable def f_bucketsFor (A : zO) (p k : Int) : Int := fi (isP A p) (if 1 ≤ k ∧ k ≤ 54 then v_few A p k else -102) (-101)
noncomputable def f_waste (A : zO) (p g : Int) : Int := fi (isP A p) (if 1 ≤ g ∧ g ≤ 9 then v_waste A p g else -102) (-101)
noncomputable def kx_load (A : zO) : Option (Int × zO) := kx (zOK 90000 A) (f_load A)
noncomputable def kx_draw (A : zO) (p : Int) : Option (Int × zO) := kx (zOK 90000 A ∧ i32 p) (f_draw A p)
noncomputable def kx_hang (A : zO) (p : Int) : Option (Int × zO) := kx (zOK 90000 A ∧ i32 p) (f_hang A p)
noncomputable def kx_release (A : zO) (p : Int) : Option (Int × zO) := kx (zOK 90000 A ∧ i32 p) (f_release A p)
noncomputable def kx_add (A : zO) (p x y : Int) : Option (Int × zO) := kx (zOK 90000 A ∧ i32 p ∧ i32 x ∧ i32 y) (f_add A p x y)
noncomputable def kx_setBound (A : zO) (l : Int) : Option (Int × zO) := kx (zOK 90000 A ∧ i32 l) (f_setBound A l)
noncomputable def kx_undo (A : zO) : Option (Int × zO) := kx (zOK 90000 A) (f_undo A)
noncomputable def kx_restore (A : zO) (s : Int) : Option (Int × zO) := kx (zOK 90000 A ∧ i32 s) (f_restore A s)
noncomputable def kx_ready (A : zO) (p : Int) : Option Int := kx (zOK 90000 A ∧ i32 p) (f_ready A p)
noncomputable def kx_blockers (A : zO) (p : Int) : Option Int := kx (zOK 90000 A ∧ i32 p) (f_blockers A p)
noncomputable def kx_slack (A : zO) (p : Int) : Option Int := kx (zOK 90000 A ∧ i32 p) (f_slack A p)
noncomputable def kx_most (A : zO) (p : Int) : Option Int := kx (zOK 90000 A ∧ i32 p) (f_most A p)
noncomputable def kx_bucketsFor (A : zO) (p k : Int) : Option Int := kx (zOK 90000 A ∧ i32 p ∧ i32 k) (f_bucketsFor A p k)
noncomputable def kx_waste (A : zO) (p g : Int) : Option Int := kx (zOK 90000 A ∧ i32 p ∧ i32 g) (f_waste A p g)
-- calls that throw
noncomputable def kt_append (A : zO) (c : Int) : Option Int := kx (zOK 90000 A ∧ i32 c ∧ ¬ (0 ≤ c ∧ c ≤ 255)) (-102)
noncomputable def kt_drawn (A : zO) (p : Int) : Option Int := kx (zOK 90000 A ∧ i32 p ∧ ¬ isP A p) (-101)
noncomputable def kt_remaining (A : zO) (p : Int) : Option Int := kx (zOK 90000 A ∧ i32 p ∧ ¬ isP A p) (-101)
noncomputable def kt_slices (A : zO) (p : Int) : Option Int := kx (zOK 90000 A ∧ i32 p ∧ ¬ isP A p) (-101)
noncomputable def kt_hung (A : zO) (p : Int) : Option Int := kx (zOK 90000 A ∧ i32 p ∧ ¬ isP A p) (-101)
noncomputable def kt_ready (A : zO) (p : Int) : Option Int := kx (zOK 90000 A ∧ i32 p ∧ ¬ isP A p) (-101)
noncomputable def kt_blockers (A : zO) (p : Int) : Option Int := kx (zOK 90000 A ∧ i32 p ∧ ¬ isP A p) (-101)
noncomputable def kt_slack (A : zO) (p : Int) : Option Int := kx (zOK 90000 A ∧ i32 p ∧ ¬ isP A p) (-101)
noncomputable def kt_most (A : zO) (p : Int) : Option Int := kx (zOK 90000 A ∧ i32 p ∧ ¬ isP A p) (-101)
noncomputable def kt_grade (A : zO) (p i : Int) : Option Int := kx (zOK 90000 A ∧ i32 p ∧ i32 i ∧ ¬ (isP A p ∧ 0 ≤ i ∧ i ≤ 99)) (fi (isP A p) (-102) (-101))
noncomputable def kt_waste (A : zO) (p i : Int) : Option Int := kx (zOK 90000 A ∧ i32 p ∧ i32 i ∧ ¬ (isP A p ∧ 1 ≤ i ∧ i ≤ 9)) (fi (isP A p) (-102) (-101))
noncomputable def kt_bucketsFor (A : zO) (p i : Int) : Option Int := kx (zOK 90000 A ∧ i32 p ∧ i32 i ∧ ¬ (isP A p ∧ 1 ≤ i ∧ i ≤ 54)) (fi (isP A p) (-102) (-101))
noncomputable def kt_draw (A : zO) (p : Int) : Option Int := kx (zOK 90000 A ∧ i32 p ∧ ¬ (isP A p ∧ 0 < v_slack A p)) (fi (isP A p) (-103) (-101))
noncomputable def kt_hang (A : zO) (p : Int) : Option Int := kx (zOK 90000 A ∧ i32 p ∧ ¬ (isP A p ∧ ab_hg (oa A) p.toNat = false)) (fi (isP A p) (-103) (-101))
noncomputable def kt_release (A : zO) (p : Int) : Option Int := kx (zOK 90000 A ∧ i32 p ∧ ¬ (isP A p ∧ ab_hg (oa A) p.toNat = true)) (fi (isP A p) (-103) (-101))
noncomputable def kt_add (A : zO) (p x y : Int) : Option Int := kx (zOK 90000 A ∧ i32 p ∧ i32 x ∧ i32 y ∧ ¬ (isP A p ∧ ((1 ≤ x ∧ x ≤ 9) ∧ 0 ≤ y ∧ y ≤ 9) ∧ (ab_col (oa A) p.toNat).length < 6)) (fi (isP A p) (if (1 ≤ x ∧ x ≤ 9) ∧ 0 ≤ y ∧ y ≤ 9 then -103 else -102) (-101))
noncomputable def kt_byOrder (A : zO) (k : Int) : Option Int := kx (zOK 90000 A ∧ i32 k ∧ ¬ (1 ≤ k ∧ k ≤ 99)) (-102)
noncomputable def kt_setBound (A : zO) (l : Int) : Option Int := kx (zOK 90000 A ∧ i32 l ∧ ¬ (1 ≤ l ∧ l ≤ 9)) (-102)
noncomputable def kt_ahead (A : zO) (i : Int) : Option Int := kx (zOK 90000 A ∧ i32 i ∧ ¬ (0 ≤ i ∧ i ≤ 99)) (-102)
noncomputable def kt_best (A : zO) (n i : Int) : Option Int := kx (zOK 90000 A ∧ i32 n ∧ i32 i ∧ ¬ ((1 ≤ n ∧ n ≤ 4) ∧ 0 ≤ i ∧ i ≤ n)) (-102)
noncomputable def kt_origins (A : zO) (m g : Int) : Option Int := kx (zOK 90000 A ∧ i32 m ∧ i32 g ∧ ¬ ((1 ≤ m ∧ m ≤ 9) ∧ 0 ≤ g ∧ g.toNat < 10 ^ m.toNat)) (-102)
noncomputable def kt_script (A : zO) (n x : Int) : Option Int := kx (zOK 90000 A ∧ i32 n ∧ (-9223372036854775808 ≤ x ∧ x ≤ 9223372036854775807) ∧ ¬ ((1 ≤ n ∧ n ≤ 4) ∧ 0 ≤ x ∧ x.toNat < 10000 ^ n.toNat)) (-102)
noncomputable def kt_simulate (A : zO) (x m : Int) : Option Int := kx (zOK 90000 A ∧ i32 x ∧ i32 m ∧ ¬ (1 ≤ m ∧ m ≤ 100)) (-102)
noncomputable def kt_save (A : zO) (s : Int) : Option Int := kx (zOK 90000 A ∧ i32 s ∧ ¬ (0 ≤ s ∧ s ≤ 1)) (-101)
noncomputable def kt_restore (A : zO) (s : Int) : Option Int := kx (zOK 90000 A ∧ i32 s ∧ ¬ (0 ≤ s ∧ s ≤ 1)) (-101)
noncomputable def kt_undo (A : zO) : Option Int := kx (zOK 90000 A ∧ oc A = 0) (-103)
