/-! THE LAW'S METHODS OVER THE OBJECT: the text that is written is read as written -/
def tE (L : Nat) (S : Nat → Int) (L' : Nat) (S' : Nat → Int) : Prop := L ≤ L' ∧ ∀ j, j < L → S' j = S j
theorem tE.refl (L : Nat) (S : Nat → Int) : tE L S L S := ⟨Nat.le_refl _, fun _ _ => rfl⟩
theorem tE.trans {L L1 L2 : Nat} {S S1 S2 : Nat → Int} (h : tE L S L1 S1) (k : tE L1 S1 L2 S2) : tE L S L2 S2 := ⟨Nat.le_trans h.1 k.1, fun j hj => (k.2 j (Nat.lt_of_lt_of_le hj h.1)).trans (h.2 j hj)⟩
theorem tE.app (L : Nat) (S : Nat → Int) (c : Int) : tE L S (L + 1) (va_up S L c) := ⟨Nat.le_succ _, fun j hj => up_n _ _ _ (by omega)⟩
theorem tE.sg {L L' : Nat} {S S' : Nat → Int} (h : tE L S L' S') {j : Nat} (hj : j < L) : sg_of L' S' j = S j := by
  unfold sg_of
  have := h.1
  rw [if_pos (by omega), h.2 j hj]
theorem tE.last {L L' : Nat} {S S' : Nat → Int} {c : Int} (h : tE (L + 1) (va_up S L c) L' S') : sg_of L' S' L = c := (h.sg (Nat.lt_succ_self L)).trans (up_s _ _ _)
def pc_pre (l : zSl) : zTx → zTx
  | .inl e => .inl e
  | .inr r => .inr (r.1, l ++ r.2)
def ps_pre (l : List zSl) : zTy → zTy
  | .inl e => .inl e
  | .inr r => .inr (r.1, l ++ r.2)
theorem pc_pre2 (l1 l2 : zSl) (t : zTx) : pc_pre l1 (pc_pre l2 t) = pc_pre (l1 ++ l2) t := by
  cases t with
  | inl e => rfl
  | inr r =>
    show Sum.inr (r.1, l1 ++ (l2 ++ r.2)) = Sum.inr (r.1, (l1 ++ l2) ++ r.2)
    rw [List.append_assoc]
theorem ps_pre2 (l1 l2 : List zSl) (t : zTy) : ps_pre l1 (ps_pre l2 t) = ps_pre (l1 ++ l2) t := by
  cases t with
  | inl e => rfl
  | inr r =>
    show Sum.inr (r.1, l1 ++ (l2 ++ r.2)) = Sum.inr (r.1, (l1 ++ l2) ++ r.2)
    rw [List.append_assoc]
theorem pc_semi {L : Nat} {S : Nat → Int} {j : Nat} (h : sg_of L S j = 59) : ∀ m, pc L S m j = .inr (j + 1, [])
  | 0 => by rw [pc, if_pos h]
  | m + 1 => by rw [pc, if_pos h]
theorem pc_pair {L : Nat} {S : Nat → Int} {j : Nat} {x y : Int} (h1 : sg_of L S j = x) (hx : 49 ≤ x ∧ x ≤ 57) (h2 : sg_of L S (j + 1) = y) (hy : 48 ≤ y ∧ y ≤ 57) (m : Nat) : pc L S (m + 1) j = pc_pre [(x - 48, y - 48)] (pc L S m (j + 2)) := by
  rw [pc, h1, h2, if_neg (by omega), if_pos (by omega), if_pos (by omega)]
  cases pc L S m (j + 2) <;> rfl
/-- inside a column: i pairs are written -/
def cI (L0 : Nat) (S0 : Nat → Int) (i L : Nat) (S : Nat → Int) : Prop := tE L0 S0 L S ∧ L = L0 + 2 * i ∧ ∃ l : zSl, ∀ (L' : Nat) (S' : Nat → Int), tE L S L' S' → ∀ m, pc L' S' (i + m) L0 = pc_pre l (pc L' S' m L)
theorem cI.zero (L0 : Nat) (S0 : Nat → Int) : cI L0 S0 0 L0 S0 := ⟨tE.refl _ _, rfl, [], fun L' S' _ m => by
  rw [Nat.zero_add]
  cases pc L' S' m L0 <;> rfl⟩
theorem cI.step {L0 i L : Nat} {S0 S : Nat → Int} {x y : Int} (h : cI L0 S0 i L S) (hx : 49 ≤ x ∧ x ≤ 57) (hy : 48 ≤ y ∧ y ≤ 57) : cI L0 S0 (i + 1) (L + 1 + 1) (va_up (va_up S L x) (L + 1) y) := by
  obtain ⟨h1, h2, l, h3⟩ := h
  have e1 := tE.app L S x
  have e2 := tE.app (L + 1) (va_up S L x) y
  refine ⟨h1.trans (e1.trans e2), by omega, l ++ [(x - 48, y - 48)], fun L' S' he m => ?_⟩
  have s1 : sg_of L' S' L = x := (e2.trans he).last
  have s2 : sg_of L' S' (L + 1) = y := he.last
  rw [show i + 1 + m = i + (m + 1) by omega, h3 L' S' (e1.trans (e2.trans he)) (m + 1), pc_pair s1 hx s2 hy m, pc_pre2]
/-- p columns are written -/
def rI (S0 : Nat → Int) (p L : Nat) (S : Nat → Int) : Prop := tE 4 S0 L S ∧ L ≤ 4 + 7 * p ∧ ∃ ls : List zSl, ∀ (L' : Nat) (S' : Nat → Int), tE L S L' S' → ∀ m, ps L' S' (p + m) 4 = ps_pre ls (ps L' S' m L)
theorem rI.zero (S0 : Nat → Int) : rI S0 0 4 S0 := ⟨tE.refl _ _, Nat.le_refl _, [], fun L' S' _ m => by
  rw [Nat.zero_add]
  cases ps L' S' m 4 <;> rfl⟩
theorem rI.step {S0 S S1 : Nat → Int} {p i L L1 : Nat} (h : rI S0 p L S) (k : cI L S i L1 S1) (hi : i ≤ 3) : rI S0 (p + 1) (L1 + 1) (va_up S1 L1 59) := by
  obtain ⟨h1, h2, ls, h3⟩ := h
  obtain ⟨k1, k2, l, k3⟩ := k
  have e := tE.app L1 S1 59
  refine ⟨h1.trans (k1.trans e), by omega, ls ++ [l], fun L' S' he m => ?_⟩
  have s1 : sg_of L' S' L1 = 59 := he.last
  have c1 : pc L' S' 6 L = .inr (L1 + 1, l) := by
    have := k3 L' S' (e.trans he) (6 - i)
    rw [show i + (6 - i) = 6 by omega, pc_semi s1] at this
    rw [this]
    show Sum.inr (L1 + 1, l ++ []) = Sum.inr (L1 + 1, l)
    rw [List.append_nil]
  have c2 : ps L' S' (m + 1) L = ps_pre [l] (ps L' S' m (L1 + 1)) := by
    rw [ps, c1]
    try dsimp only
    cases ps L' S' m (L1 + 1) <;> rfl
  rw [show p + 1 + m = p + (m + 1) by omega, h3 L' S' (k1.trans (e.trans he)) (m + 1), c2, ps_pre2]
theorem ap_text {A : zO} (W : zOK 90000 A) {L : Nat} {S : Nat → Int} {c : Int} (hL : L < 120) (hc : 0 ≤ c ∧ c ≤ 255) : kn_append (s_text A L S) c = some ((L : Int) + 1, s_text A (L + 1) (va_up S L c)) := by
  have W' : zOK 90000 (s_text A L S) := W
  unfold kn_append
  rw [kx_t (by exact ⟨W', hL, hc.1, hc.2⟩)]
  rfl
section LD
variable {A : zO}
theorem ld_in (W : zOK 90000 A) {F : Nat} {x v27 v28 : Int} {z : Nat} (hz : zand (zxor (zdiv v27 (5 : Int)) (x * (((2 : Int) * v28) + (3 : Int)))) (2147483647 : Int) = (z : Int)) (hz2 : z ≤ 2147483647) (k : Int → Int → zO → Option (Int × zO)) {L0 : Nat} {S0 : Nat → Int} (h0 : L0 ≤ 112) : ∀ (m i N : Nat) (sum : Int) (L : Nat) (S : Nat → Int), i + m = z % 4 → m < N → cI L0 S0 i L S → ∃ (sum' : Int) (L' : Nat) (S' : Nat → Int), sh_L_loadText_L97 F x v27 v28 k N sum (i : Int) (s_text A L S) = k sum' ((z % 4 : Nat) : Int) (s_text A L' S') ∧ cI L0 S0 (z % 4) L' S' := by
  have m4 : zmod (z : Int) (4 : Int) = ((z % 4 : Nat) : Int) := md_n z 4
  intro m
  induction m with
  | zero =>
    intro i N sum L S hi hN I
    obtain ⟨N, rfl⟩ : ∃ M, N = M + 1 := ⟨N - 1, by omega⟩
    have hi : i = z % 4 := hi
    refine ⟨sum, L, S, ?_, hi ▸ I⟩
    rw [sh_L_loadText_L97, hz, m4, zkr_t (by omega) (by omega), zkr_t (by omega) (by omega), zkr_t (by omega) (by omega), if_neg (by omega), hi]
  | succ m ih =>
    intro i N sum L S hi hN I
    obtain ⟨N, rfl⟩ : ∃ M, N = M + 1 := ⟨N - 1, by omega⟩
    have hL := I.2.1
    have f1 : ((4 : Int) + ((7 : Int) * (i : Int))) = ((4 + 7 * i : Nat) : Int) := by omega
    have f2 : ((36 : Int) + ((11 : Int) * (i : Int))) = ((36 + 11 * i : Nat) : Int) := by omega
    have d1 : zdiv (z : Int) ((4 + 7 * i : Nat) : Int) = ((z / (4 + 7 * i) : Nat) : Int) := dv_n z (4 + 7 * i)
    have d2 : zdiv (z : Int) ((36 + 11 * i : Nat) : Int) = ((z / (36 + 11 * i) : Nat) : Int) := dv_n z (36 + 11 * i)
    have n1 : z / (4 + 7 * i) ≤ z := Nat.div_le_self _ _
    have n2 : z / (36 + 11 * i) ≤ z := Nat.div_le_self _ _
    have r1 : zmod ((z / (4 + 7 * i) : Nat) : Int) (9 : Int) = ((z / (4 + 7 * i) % 9 : Nat) : Int) := md_n _ 9
    have r2 : zmod ((z / (36 + 11 * i) : Nat) : Int) (10 : Int) = ((z / (36 + 11 * i) % 10 : Nat) : Int) := md_n _ 10
    have l1 : z / (4 + 7 * i) % 9 < 9 := Nat.mod_lt _ (by decide)
    have l2 : z / (36 + 11 * i) % 10 < 10 := Nat.mod_lt _ (by decide)
    generalize z / (4 + 7 * i) = t1 at *
    generalize z / (36 + 11 * i) = t2 at *
    generalize t1 % 9 = c1 at *
    generalize t2 % 10 = c2 at *
    have I' := I.step (x := (49 : Int) + (c1 : Int)) (y := (48 : Int) + (c2 : Int)) (by omega) (by omega)
    obtain ⟨sum', L', S', e, I2⟩ := ih (i + 1) N (sum + (((L : Int) + 1) + (((L + 1 : Nat) : Int) + 1))) (L + 1 + 1) _ (by omega) (by omega) I'
    refine ⟨sum', L', S', ?_, I2⟩
    rw [sh_L_loadText_L97, hz, m4, zkr_t (by omega) (by omega), zkr_t (by omega) (by omega), zkr_t (by omega) (by omega), if_pos (by omega), f1, d1, r1, zkr_t (by omega) (by omega), zkc_t (by omega), zkr_t (by omega) (by omega), ap_text W (by omega) (by omega), Option.bind_some]
    try dsimp only
    rw [f2, d2, r2, zkr_t (by omega) (by omega), zkc_t (by omega), zkr_t (by omega) (by omega), ap_text W (by omega) (by omega), Option.bind_some]
    try dsimp only
    rw [nc_s]
    exact e
theorem ld_out (W : zOK 90000 A) {F x h w : Nat} (hF : 20 ≤ F) (hh : ((1 : Int) + (zmod (x : Int) (4 : Int))) = (h : Int)) (hw : ((1 : Int) + (zmod (zdiv (x : Int) (4 : Int)) (4 : Int))) = (w : Int)) (h16 : h * w ≤ 16) (k : Int → Int → Int → zO → Option (Int × zO)) {S0 : Nat → Int} : ∀ (m p N : Nat) (sum v27 : Int) (L : Nat) (S : Nat → Int), p + m = h * w → m < N → (0 ≤ v27 ∧ v27 ≤ 2147483647) → rI S0 p L S → ∃ (sum' v' : Int) (L' : Nat) (S' : Nat → Int), sh_L_loadText_L67 F (x : Int) k N sum v27 (p : Int) (s_text A L S) = k sum' v' ((h * w : Nat) : Int) (s_text A L' S') ∧ rI S0 (h * w) L' S' := by
  have hm : (h : Int) * (w : Int) = ((h * w : Nat) : Int) := (Int.natCast_mul h w).symm
  intro m
  induction m with
  | zero =>
    intro p N sum v27 L S hi hN hv I
    obtain ⟨N, rfl⟩ : ∃ M, N = M + 1 := ⟨N - 1, by omega⟩
    have hi : p = h * w := hi
    refine ⟨sum, v27, L, S, ?_, hi ▸ I⟩
    rw [sh_L_loadText_L67, hh, hw, hm, zkr_t (by omega) (by omega), zkr_t (by omega) (by omega), if_neg (by omega), hi]
  | succ m ih =>
    intro p N sum v27 L S hi hN hv I
    obtain ⟨N, rfl⟩ : ∃ M, N = M + 1 := ⟨N - 1, by omega⟩
    have hL := I.2.1
    have hz0 := zand_nn (zxor (zdiv v27 (5 : Int)) ((x : Int) * (((2 : Int) * (p : Int)) + (3 : Int))))
    obtain ⟨z, hz⟩ : ∃ z : Nat, zand (zxor (zdiv v27 (5 : Int)) ((x : Int) * (((2 : Int) * (p : Int)) + (3 : Int)))) (2147483647 : Int) = (z : Int) := ⟨(zand (zxor (zdiv v27 (5 : Int)) ((x : Int) * (((2 : Int) * (p : Int)) + (3 : Int)))) (2147483647 : Int)).toNat, by omega⟩
    obtain ⟨s1, L1, S1, e1, I1⟩ := ld_in W (F := F) hz (by omega) (fun (v56 : Int) (v57 : Int) (v58 : zO) => (kn_append v58 (59 : Int)).bind (fun (q61 : Int × zO) => sh_L_loadText_L67 F (x : Int) k N (v56 + q61.1) (zand (zxor (zdiv v27 (5 : Int)) ((x : Int) * (((2 : Int) * (p : Int)) + (3 : Int)))) (2147483647 : Int)) ((p : Int) + (1 : Int)) q61.2)) (L0 := L) (S0 := S) (by omega) (z % 4) 0 F sum L S (by omega) (by omega) (cI.zero L S)
    have e1' : sh_L_loadText_L97 F (x : Int) v27 (p : Int) (fun (v56 : Int) (v57 : Int) (v58 : zO) => (kn_append v58 (59 : Int)).bind (fun (q61 : Int × zO) => sh_L_loadText_L67 F (x : Int) k N (v56 + q61.1) (zand (zxor (zdiv v27 (5 : Int)) ((x : Int) * (((2 : Int) * (p : Int)) + (3 : Int)))) (2147483647 : Int)) ((p : Int) + (1 : Int)) q61.2)) F sum (0 : Int) (s_text A L S) = _ := e1
    have hL1 := I1.2.1
    obtain ⟨s', v', L', S', e, I2⟩ := ih (p + 1) N (s1 + ((L1 : Int) + 1)) _ (L1 + 1) _ (by omega) (by omega) hz0 (I.step I1 (by omega))
    refine ⟨s', v', L', S', ?_, I2⟩
    rw [sh_L_loadText_L67, hh, hw, hm, zkr_t (by omega) (by omega), zkr_t (by omega) (by omega), if_pos (by omega), zkr_t (by omega) (by omega), e1']
    try dsimp only
    rw [ap_text W (by omega) (by decide), Option.bind_some]
    try dsimp only
    rw [nc_s]
    exact e
theorem loadText_ok (W : zOK 90000 A) {b : Int} (Wb : zOK b A) (hb : 0 ≤ b ∧ b ≤ 80000) {F x y : Nat} (hF : 20 ≤ F) (hx : x ≤ 2147483647) (hy : y ≤ 2147483647) : ∃ (r : Int) (A' : zO), sh_L_loadText F A (x : Int) (y : Int) = some (r, A') ∧ zOK (b + 12) A' ∧ (zmod (x : Int) (31 : Int) = 0 → sameG A A') ∧ (¬ zmod (x : Int) (31 : Int) = 0 → ((ow A' : Nat) : Int) = (1 : Int) + (zmod (zdiv (x : Int) (4 : Int)) (4 : Int))) := by
  have dv4 : zdiv (x : Int) (4 : Int) = ((x / 4 : Nat) : Int) := dv_n x 4
  have dv16 : zdiv (x : Int) (16 : Int) = ((x / 16 : Nat) : Int) := dv_n x 16
  have m1 : zmod (x : Int) (4 : Int) = ((x % 4 : Nat) : Int) := md_n x 4
  have m2 : zmod ((x / 4 : Nat) : Int) (4 : Int) = ((x / 4 % 4 : Nat) : Int) := md_n _ 4
  have m3 : zmod ((x / 16 : Nat) : Int) (4 : Int) = ((x / 16 % 4 : Nat) : Int) := md_n _ 4
  have m6 : zmod (y : Int) (6 : Int) = ((y % 6 : Nat) : Int) := md_n y 6
  have b1 : x % 4 < 4 := Nat.mod_lt _ (by decide)
  have b2 : x / 4 % 4 < 4 := Nat.mod_lt _ (by decide)
  have b3 : x / 16 % 4 < 4 := Nat.mod_lt _ (by decide)
  have b6 : y % 6 < 6 := Nat.mod_lt _ (by decide)
  have b31 := zmod_rng (x := (x : Int)) (m := 31) (by decide)
  obtain ⟨h, eh⟩ : ∃ h : Nat, h = 1 + x % 4 := ⟨_, rfl⟩
  obtain ⟨w, ew⟩ : ∃ w : Nat, w = 1 + x / 4 % 4 := ⟨_, rfl⟩
  have hh : ((1 : Int) + (zmod (x : Int) (4 : Int))) = (h : Int) := by rw [m1]; omega
  have hw : ((1 : Int) + (zmod (zdiv (x : Int) (4 : Int)) (4 : Int))) = (w : Int) := by rw [dv4, m2]; omega
  have h16 : h * w ≤ 16 := gz_n16 (by omega) (by omega)
  obtain ⟨g, eg⟩ : ∃ g : Nat, g = x / 16 % 4 := ⟨_, rfl⟩
  have hg : zmod (zdiv (x : Int) (16 : Int)) (4 : Int) = (g : Int) := by rw [dv16, m3, eg]
  have d4r : zdiv (x : Int) (4 : Int) ≤ 2147483647 ∧ 0 ≤ zdiv (x : Int) (4 : Int) := by rw [dv4]; omega
  have d16r : zdiv (x : Int) (16 : Int) ≤ 2147483647 ∧ 0 ≤ zdiv (x : Int) (16 : Int) := by rw [dv16]; omega
  have e0 : kd_clearText A = some (((oL A : Nat) : Int), s_text A 0 (oS A)) := by unfold kd_clearText; rw [kx_t W]
  have a1 : kn_append (s_text A 0 (oS A)) (68 : Int) = some (((0 : Nat) : Int) + 1, s_text A (0 + 1) (va_up (oS A) 0 68)) := ap_text W (by decide) (by decide)
  generalize hS1 : va_up (oS A) 0 68 = S1 at a1
  have a2 : kn_append (s_text A (0 + 1) S1) ((48 : Int) + (h : Int)) = some (((0 + 1 : Nat) : Int) + 1, s_text A (0 + 1 + 1) (va_up S1 (0 + 1) ((48 : Int) + (h : Int)))) := ap_text W (by decide) (by omega)
  generalize hS2 : va_up S1 (0 + 1) ((48 : Int) + (h : Int)) = S2 at a2
  have a3 : kn_append (s_text A (0 + 1 + 1) S2) ((48 : Int) + (w : Int)) = some (((0 + 1 + 1 : Nat) : Int) + 1, s_text A (0 + 1 + 1 + 1) (va_up S2 (0 + 1 + 1) ((48 : Int) + (w : Int)))) := ap_text W (by decide) (by omega)
  generalize hS3 : va_up S2 (0 + 1 + 1) ((48 : Int) + (w : Int)) = S3 at a3
  have a4 : kn_append (s_text A (0 + 1 + 1 + 1) S3) ((49 : Int) + (g : Int)) = some (((0 + 1 + 1 + 1 : Nat) : Int) + 1, s_text A (0 + 1 + 1 + 1 + 1) (va_up S3 (0 + 1 + 1 + 1) ((49 : Int) + (g : Int)))) := ap_text W (by decide) (by omega)
  generalize hS4 : va_up S3 (0 + 1 + 1 + 1) ((49 : Int) + (g : Int)) = S4 at a4
  have q0 : S4 0 = 68 := by rw [← hS4, up_n _ _ _ (by decide), ← hS3, up_n _ _ _ (by decide), ← hS2, up_n _ _ _ (by decide), ← hS1, up_s]
  have q1 : S4 1 = (48 : Int) + (h : Int) := by rw [← hS4, up_n _ _ _ (by decide), ← hS3, up_n _ _ _ (by decide), ← hS2]; exact up_s _ _ _
  have q2 : S4 2 = (48 : Int) + (w : Int) := by rw [← hS4, up_n _ _ _ (by decide), ← hS3]; exact up_s _ _ _
  have q3 : S4 3 = (49 : Int) + (g : Int) := by rw [← hS4]; exact up_s _ _ _
  have main : ∀ (K : Int → Int → Int → zO → Option (Int × zO)) (s0 : Int), ∃ (s' v' : Int) (L' : Nat) (S' : Nat → Int), sh_L_loadText_L67 F (x : Int) K F s0 (y : Int) (0 : Int) (s_text A (0 + 1 + 1 + 1 + 1) S4) = K s' v' ((h * w : Nat) : Int) (s_text A L' S') ∧ rI S4 (h * w) L' S' := fun K s0 => ld_out W hF hh hw h16 K (h * w) 0 F s0 (y : Int) 4 S4 (by omega) (by omega) ⟨by omega, by omega⟩ (rI.zero S4)
  have rd : ∀ (L' : Nat) (S' : Nat → Int) (L2 : Nat) (S2 : Nat → Int), rI S4 (h * w) L' S' → tE L' S' L2 S2 → ∃ ls, ps L2 S2 (h * w) 4 = .inr (L', ls) ∧ sg_of L2 S2 1 - 48 = (h : Int) ∧ sg_of L2 S2 2 - 48 = (w : Int) ∧ sg_of L2 S2 3 - 48 = (1 : Int) + (g : Int) ∧ tx_err L2 S2 = (if L' < L2 then (L' : Int) else -9) := by
    intro L' S' L2 S2 I E
    obtain ⟨I1, -, ls, I3⟩ := I
    have E4 := I1.trans E
    have s0 := E4.sg (j := 0) (by decide)
    have s1 := E4.sg (j := 1) (by decide)
    have s2 := E4.sg (j := 2) (by decide)
    have s3 := E4.sg (j := 3) (by decide)
    rw [q0] at s0
    rw [q1] at s1
    rw [q2] at s2
    rw [q3] at s3
    have hp : ps L2 S2 (h * w) 4 = .inr (L', ls) := by
      have := I3 L2 S2 E 0
      rw [Nat.add_zero] at this
      rw [this]
      show Sum.inr (L', ls ++ []) = Sum.inr (L', ls)
      rw [List.append_nil]
    refine ⟨ls, hp, by omega, by omega, by omega, ?_⟩
    unfold tx_err
    rw [s0, s1, s2, s3, if_pos rfl, if_pos (by omega), if_pos (by omega), if_pos (by omega), show ((48 : Int) + (h : Int) - 48).toNat = h by omega, show ((48 : Int) + (w : Int) - 48).toNat = w by omega, hp]
    rfl
  by_cases c : zmod (x : Int) (31 : Int) = 0
  · obtain ⟨s', v', L', S', e, I⟩ := main (fun (v63 : Int) (v64 : Int) (v65 : Int) (v66 : zO) => zkr (zmod (x : Int) (31 : Int)) (if (zmod (x : Int) (31 : Int)) = (0 : Int) then zkr (y : Int) (zkc (0 ≤ (zmod (y : Int) (6 : Int)) ∧ (zmod (y : Int) (6 : Int)) < 6) ((kn_append v66 (zch (zmod (y : Int) (6 : Int)))).bind (fun (q76 : Int × zO) => (kx_load q76.2).bind (fun (q79 : Int × zO) => some ((((53 : Int) * (v63 + q76.1)) + q79.1), q79.2))))) else (kx_load v66).bind (fun (q70 : Int × zO) => some ((((53 : Int) * (v63 + (0 : Int))) + q70.1), q70.2)))) (((((((oL A : Nat) : Int) + (((0 : Nat) : Int) + 1)) + (((0 + 1 : Nat) : Int) + 1)) + (((0 + 1 + 1 : Nat) : Int) + 1)) + (((0 + 1 + 1 + 1 : Nat) : Int) + 1)))
    have hL := I.2.1
    have hch := zch_in (zmod (y : Int) (6 : Int))
    have ea := ap_text W (L := L') (S := S') (c := zch (zmod (y : Int) (6 : Int))) (by omega) (by omega)
    obtain ⟨ls, r1, r2, r3, r4, r5⟩ := rd L' S' _ _ I (tE.app L' S' (zch (zmod (y : Int) (6 : Int))))
    rw [if_pos (Nat.lt_succ_self L')] at r5
    have el : kx_load (s_text A (L' + 1) (va_up S' L' (zch (zmod (y : Int) (6 : Int))))) = some (-103, s_text A (L' + 1) (va_up S' L' (zch (zmod (y : Int) (6 : Int))))) := by
      have W' : zOK 90000 (s_text A (L' + 1) (va_up S' L' (zch (zmod (y : Int) (6 : Int))))) := W
      have hv : ¬ v_err (s_text A (L' + 1) (va_up S' L' (zch (zmod (y : Int) (6 : Int))))) = -9 := by
        show ¬ tx_err (L' + 1) (va_up S' L' (zch (zmod (y : Int) (6 : Int)))) = -9
        rw [r5]; omega
      unfold kx_load f_load
      rw [kx_t W', if_neg hv]
    refine ⟨(53 : Int) * (s' + ((L' : Int) + 1)) + (-103), _, ?_, show zOK (b + 12) (s_text A (L' + 1) (va_up S' L' (zch (zmod (y : Int) (6 : Int))))) from Wb.mono (by omega), fun _ => ⟨rfl, rfl⟩, fun z => absurd c z⟩
    unfold sh_L_loadText
    rw [zkr_t (by omega) (by omega), zkr_t (by omega) (by omega), hh, hw, hg, e0, Option.bind_some]
    try dsimp only
    rw [a1, Option.bind_some]
    try dsimp only
    rw [a2, Option.bind_some]
    try dsimp only
    rw [a3, Option.bind_some]
    try dsimp only
    rw [zkr_t (by omega) (by omega), a4, Option.bind_some]
    try dsimp only
    rw [e]
    try dsimp only
    rw [zkr_t (by omega) (by omega), if_pos c, zkr_t (by omega) (by omega), zkc_t (by rw [m6]; omega), ea, Option.bind_some]
    try dsimp only
    rw [el, Option.bind_some]
  · obtain ⟨s', v', L', S', e, I⟩ := main (fun (v63 : Int) (v64 : Int) (v65 : Int) (v66 : zO) => zkr (zmod (x : Int) (31 : Int)) (if (zmod (x : Int) (31 : Int)) = (0 : Int) then zkr (y : Int) (zkc (0 ≤ (zmod (y : Int) (6 : Int)) ∧ (zmod (y : Int) (6 : Int)) < 6) ((kn_append v66 (zch (zmod (y : Int) (6 : Int)))).bind (fun (q76 : Int × zO) => (kx_load q76.2).bind (fun (q79 : Int × zO) => some ((((53 : Int) * (v63 + q76.1)) + q79.1), q79.2))))) else (kx_load v66).bind (fun (q70 : Int × zO) => some ((((53 : Int) * (v63 + (0 : Int))) + q70.1), q70.2)))) (((((((oL A : Nat) : Int) + (((0 : Nat) : Int) + 1)) + (((0 + 1 : Nat) : Int) + 1)) + (((0 + 1 + 1 : Nat) : Int) + 1)) + (((0 + 1 + 1 + 1 : Nat) : Int) + 1)))
    obtain ⟨ls, r1, r2, r3, r4, r5⟩ := rd L' S' _ _ I (tE.refl L' S')
    rw [if_neg (Nat.lt_irrefl L')] at r5
    have W' : zOK 90000 (s_text A L' S') := W
    have el : kx_load (s_text A L' S') = some (((onn (s_load (s_text A L' S')) : Nat) : Int), s_load (s_text A L' S')) := by
      have hv : v_err (s_text A L' S') = -9 := r5
      unfold kx_load f_load
      rw [kx_t W', if_pos hv]
    have th : (sg_of L' S' 1 - 48).toNat = h := by rw [r2]; exact Int.toNat_natCast h
    have tw : (sg_of L' S' 2 - 48).toNat = w := by rw [r3]; exact Int.toNat_natCast w
    have es : s_load (s_text A L' S') = (h, w, ab_new ls ((1 : Int) + (g : Int)), (0, oH A), (fun _ => none), L', S') := by
      show ((sg_of L' S' 1 - 48).toNat, (sg_of L' S' 2 - 48).toNat, ab_new (tx_cols (ps L' S' ((sg_of L' S' 1 - 48).toNat * (sg_of L' S' 2 - 48).toNat) 4)) (sg_of L' S' 3 - 48), (0, oH A), (fun _ => none), L', S') = _
      rw [th, tw, r4, r1]
      rfl
    have hls : ∀ l ∈ ls, ab_ok l := ((ps_le (L := L') (s := S') (h * w) 4 I.1.1).2 (L', ls) r1).2.2
    have WL : zOK (b + 12) (s_load (s_text A L' S')) := by
      rw [es]
      refine ⟨⟨by show 1 ≤ h; omega, by show h ≤ 4; omega⟩, ⟨by show 1 ≤ w; omega, by show w ≤ 4; omega⟩, ?_, fun i hi => absurd hi (Nat.not_lt_zero i), fun s a hs => by cases hs⟩
      exact ab_new_wf hls (by omega) (by omega)
    refine ⟨(53 : Int) * (s' + (0 : Int)) + ((onn (s_load (s_text A L' S')) : Nat) : Int), _, ?_, WL, fun z => absurd z c, fun _ => by rw [es, hw]; rfl⟩
    unfold sh_L_loadText
    rw [zkr_t (by omega) (by omega), zkr_t (by omega) (by omega), hh, hw, hg, e0, Option.bind_some]
    try dsimp only
    rw [a1, Option.bind_some]
    try dsimp only
    rw [a2, Option.bind_some]
    try dsimp only
    rw [a3, Option.bind_some]
    try dsimp only
    rw [zkr_t (by omega) (by omega), a4, Option.bind_some]
    try dsimp only
    rw [e]
    try dsimp only
    rw [zkr_t (by omega) (by omega), if_neg c, el, Option.bind_some]
end LD
