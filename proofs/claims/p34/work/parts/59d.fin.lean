/-! a ball's end: the loop, what is loaded and kept -/
def bLd (i_1 : Int32) : (Int32 × zMs) → Option ((Int32 × zMs) ⊕ zMs) := fun (q5 : (Int32 × zMs)) =>
if (3 : Int32) ≤ q5.1 then
some (.inr (q5.2))
else
gd (¬ ((((3 : Int32) * i_1) + q5.1) < 0 ∨ 120 ≤ (((3 : Int32) * i_1) + q5.1).toNatClampNeg)) (
gd (¬ (q5.1 < 0 ∨ 3 ≤ q5.1.toNatClampNeg)) (
st (pM q5.2 43 q5.1.toNatClampNeg (q5.2 35 (((3 : Int32) * i_1) + q5.1).toNatClampNeg)) fun M11 =>
gd (¬ ((((3 : Int32) * i_1) + q5.1) < 0 ∨ 120 ≤ (((3 : Int32) * i_1) + q5.1).toNatClampNeg)) (
gd (¬ (q5.1 < 0 ∨ 3 ≤ q5.1.toNatClampNeg)) (
st (pM M11 44 q5.1.toNatClampNeg (M11 36 (((3 : Int32) * i_1) + q5.1).toNatClampNeg)) fun M12 =>
st (q5.1 + (1 : Int32)) fun x13 =>
some (.inl (x13, M12))))))
def bKe (i_1 : Int32) : (Int32 × zMs) → Option ((Int32 × zMs) ⊕ zMs) := fun (q4 : (Int32 × zMs)) =>
if (3 : Int32) ≤ q4.1 then
some (.inr (q4.2))
else
gd (¬ (q4.1 < 0 ∨ 3 ≤ q4.1.toNatClampNeg)) (
gd (¬ ((((3 : Int32) * i_1) + q4.1) < 0 ∨ 120 ≤ (((3 : Int32) * i_1) + q4.1).toNatClampNeg)) (
st (pM q4.2 35 (((3 : Int32) * i_1) + q4.1).toNatClampNeg (q4.2 43 q4.1.toNatClampNeg)) fun M10 =>
gd (¬ (q4.1 < 0 ∨ 3 ≤ q4.1.toNatClampNeg)) (
gd (¬ ((((3 : Int32) * i_1) + q4.1) < 0 ∨ 120 ≤ (((3 : Int32) * i_1) + q4.1).toNatClampNeg)) (
st (pM M10 36 (((3 : Int32) * i_1) + q4.1).toNatClampNeg (M10 44 q4.1.toNatClampNeg)) fun M11 =>
st (q4.1 + (1 : Int32)) fun x12 =>
some (.inl (x12, M11))))))
section PFI
variable {S S1 S2 Sb : zSt} {M M1 Mb : zMs} {t g n bi k s : Nat} {ee : List Nat} {x y sx sy : Int32}
theorem roll_lp (hg : g < 40) (hbi : bi < 3) {e0 : List Nat} (he0 : e0.length ≤ 1680) (h39 : ∀ k, k < 8 → Mb 39 (8 * (3 * g + bi) + k) = Mb 16 (8 * t + k) + 1) (h16 : ∀ k, n ≤ k → k < 8 → Mb 16 (8 * t + k) = -1) : ∀ (d s fs fm : Nat) (S : zSt) (M : zMs) (x y sx sy ov : Int32), s + d = 300 → d + 1 < fs → d + 1 < fm → RH Sb Mb t g n bi e0 s S M x y sx sy → ((ov = 0 ∧ yok y) ∨ (ov = 1 ∧ ¬ y ≤ 239)) → (ov = 1 ∨ d = 0 → 1 ≤ s) →
    ∃ S1 M1 N x1 y1 sx1 sy1, lp (bRun9 t g) fs (nI (s + 1), S) = some S1 ∧ lp (bRoll (nI t) (nI (3 * g + bi))) fm (x, y, sx, sy, ov, nI s, M) = some (pM M1 37 (3 * g + bi) (nI N)) ∧ 1 ≤ N ∧ N ≤ 300 ∧ RH Sb Mb t g n bi e0 N S1 M1 x1 y1 sx1 sy1 := by
  intro d
  have endG : ∀ (q : rlT), blG (nI (3 * g + bi)) q = some (.inr (pM q.2.2.2.2.2.2 37 (3 * g + bi) q.2.2.2.2.2.1)) := by
    intro q
    have c : (nI (3 * g + bi)).toNatClampNeg = 3 * g + bi := nI_clamp (by omega)
    unfold blG
    rw [c, gd_t (show ¬ (nI (3 * g + bi) < 0 ∨ 120 ≤ 3 * g + bi) from fun q => q.elim (nI_pos (by omega)) (by omega)), st_s]
  induction d with
  | zero =>
    intro s fs fm S M x y sx sy ov hs hfs hfm h hy h1
    obtain ⟨fs, rfl⟩ : ∃ f, fs = f + 1 := ⟨fs - 1, by omega⟩
    obtain ⟨fm, rfl⟩ : ∃ f, fm = f + 1 := ⟨fm - 1, by omega⟩
    refine ⟨S, M, s, x, y, sx, sy, lp_e _ fs ?_, lp_e _ fm ?_, h1 (Or.inr rfl), by omega, h⟩
    · unfold bRun9
      dsimp only
      rw [if_pos (by rw [c300I]; exact nI_lt (by omega) (by omega))]
    · unfold bRoll
      dsimp only
      rw [st_s]
      by_cases e : ov = 0
      · rw [if_pos e, if_pos (by rw [c300I]; exact nI_le (by omega) (by omega))]
        exact endG _
      · rw [if_neg e]
        exact endG _
  | succ d ih =>
    intro s fs fm S M x y sx sy ov hs hfs hfm h hy h1
    obtain ⟨fs, rfl⟩ : ∃ f, fs = f + 1 := ⟨fs - 1, by omega⟩
    obtain ⟨fm, rfl⟩ : ∃ f, fm = f + 1 := ⟨fm - 1, by omega⟩
    rcases hy with ⟨rfl, hy⟩ | ⟨rfl, hy⟩
    · obtain ⟨S1, M1, x1, y1, sx1, sy1, ov1, e1, e2, h2, hy2⟩ := roll_step hg hbi he0 h39 h16 (by omega) h hy
      rw [lp_s _ fs e1, lp_s _ fm e2]
      exact ih (s + 1) fs fm S1 M1 x1 y1 sx1 sy1 ov1 (by omega) (by omega) (by omega) h2 hy2 (fun _ => by omega)
    · refine ⟨S, M, s, x, y, sx, sy, lp_e _ fs ?_, lp_e _ fm ?_, h1 (Or.inl rfl), by omega, h⟩
      · unfold bRun9 fX0_isOut
        dsimp only
        rw [if_neg (by rw [c300I]; exact nI_nlt (by omega) (by omega)), h.2.1.2.1, if_neg hy, cl_s, if_neg i10]
      · unfold bRoll
        dsimp only
        rw [st_s, if_neg i10]
        exact endG _
/-- what is loaded -/
def ldM (M : zMs) (g : Nat) : Nat → zMs
  | 0 => pM (pM (pM M 40 0 (nI g)) 41 0 (M 27 g)) 42 0 (M 34 g)
  | k + 1 => pM (pM (ldM M g k) 43 k (M 35 (3 * g + k))) 44 k (M 36 (3 * g + k))
theorem ldM_o (M : zMs) (g : Nat) {d : Nat} (hd : d < 40 ∨ 44 < d) : ∀ k, ldM M g k d = M d := by
  intro k
  induction k with
  | zero =>
    show pM (pM (pM M 40 0 _) 41 0 _) 42 0 _ d = _
    simp (disch := omega) only [pMn]
  | succ k ih =>
    show pM (pM (ldM M g k) 43 k _) 44 k _ d = _
    simp (disch := omega) only [pMn]
    exact ih
theorem ldM_a (M : zMs) (g : Nat) : ∀ k, ldM M g k 40 0 = nI g ∧ ldM M g k 41 0 = M 27 g ∧ ldM M g k 42 0 = M 34 g ∧ ∀ q, q < k → ldM M g k 43 q = M 35 (3 * g + q) ∧ ldM M g k 44 q = M 36 (3 * g + q) := by
  intro k
  induction k with
  | zero =>
    refine ⟨?_, ?_, ?_, fun q hq => by omega⟩
    · show pM (pM (pM M 40 0 _) 41 0 _) 42 0 _ 40 0 = _
      simp (disch := omega) only [pM_s, pMn]
    · show pM (pM (pM M 40 0 _) 41 0 _) 42 0 _ 41 0 = _
      simp (disch := omega) only [pM_s, pMn]
    · show pM (pM (pM M 40 0 _) 41 0 _) 42 0 _ 42 0 = _
      simp (disch := omega) only [pM_s, pMn]
  | succ k ih =>
    obtain ⟨i1, i2, i3, i4⟩ := ih
    refine ⟨?_, ?_, ?_, fun q hq => ?_⟩
    · show pM (pM (ldM M g k) 43 k _) 44 k _ 40 0 = _
      simp (disch := omega) only [pMn]
      exact i1
    · show pM (pM (ldM M g k) 43 k _) 44 k _ 41 0 = _
      simp (disch := omega) only [pMn]
      exact i2
    · show pM (pM (ldM M g k) 43 k _) 44 k _ 42 0 = _
      simp (disch := omega) only [pMn]
      exact i3
    · show pM (pM (ldM M g k) 43 k (M 35 (3 * g + k))) 44 k (M 36 (3 * g + k)) 43 q = _ ∧ pM (pM (ldM M g k) 43 k (M 35 (3 * g + k))) 44 k (M 36 (3 * g + k)) 44 q = _
      by_cases e : q = k
      · subst e
        simp (disch := omega) only [pM_s, pMn, and_self]
      · obtain ⟨j1, j2⟩ := i4 q (by omega)
        rw [pMn (by decide), pMi e, pMi e, pMn (by decide)]
        exact ⟨j1, j2⟩
theorem load_eq (hg : g < 40) (M : zMs) : fX10_load M (nI g) = some (ldM M g 3) := by
  have cg : (nI g).toNatClampNeg = g := nI_clamp (by omega)
  have gg : ¬ (nI g < 0 ∨ 40 ≤ g) := fun q => q.elim (nI_pos (by omega)) (by omega)
  unfold fX10_load
  rw [st_s, cg, gd_t gg, pMn (by decide), st_s, gd_t gg, pMn (by decide), pMn (by decide), st_s, st_s]
  refine lp_up (body := bLd (nI g)) (fun k => (nI k, ldM M g k)) 3 (by omega) ?_ (fun k hk => ?_) ?_
  · show _ = (nI 0, _)
    rw [nI_0]
    rfl
  · have a35 : ldM M g k 35 (3 * g + k) = M 35 (3 * g + k) := by rw [ldM_o _ _ (by omega)]
    have a36 : ldM M g k 36 (3 * g + k) = M 36 (3 * g + k) := by rw [ldM_o _ _ (by omega)]
    unfold bLd
    simp (disch := omega) only [Nat.add_sub_cancel, nI_0, c2I, c3I, c4I, c6I, c8I, c9I, c10I, c15I, c16I, c20I, c30I, c40I, c48I, c60I, c100I, c120I, c159I, c160I, c239I, c240I, c256I, c300I, c318I, c320I, c720I, c840I, c960I, c2520I, c36000I, c1048576I, nI_1, nI_add, pk_mul, nI_pred1, nI_pm1, pk_sub, pk_div, nI_clamp, nI_lz, nI_leI, nI_ltI, nI_eq, nI_z, nI_lez, nI_gez, nI_gtz, nI_m, nI_m2, nI_lem, nI_ltm, nleF, leT, ltT, ltF, eqT, eqF, false_or, or_false, not_false_eq_true, not_true_eq_false, gd_T, st_q, cl_q, cl2_q, cxr_q, cxl_q, i10, if_true, if_false, Bool.false_eq_true, pMn, a35, a36]
    rfl
  · unfold bLd
    dsimp only
    rw [if_pos (by decide)]
/-- what is kept -/
def keM (M : zMs) (g : Nat) : Nat → zMs
  | 0 => pM (pM M 27 g (M 41 0)) 34 g (M 42 0)
  | k + 1 => pM (pM (keM M g k) 35 (3 * g + k) (M 43 k)) 36 (3 * g + k) (M 44 k)
theorem keM_o (M : zMs) (g : Nat) {d : Nat} (hd : d ≠ 27 ∧ d ≠ 34 ∧ d ≠ 35 ∧ d ≠ 36) : ∀ k, keM M g k d = M d := by
  intro k
  induction k with
  | zero =>
    show pM (pM M 27 g _) 34 g _ d = _
    simp (disch := omega) only [pMn]
  | succ k ih =>
    show pM (pM (keM M g k) 35 _ _) 36 _ _ d = _
    simp (disch := omega) only [pMn]
    exact ih
theorem keM_27 (M : zMs) (g u : Nat) : ∀ k, keM M g k 27 u = if u = g then M 41 0 else M 27 u := by
  intro k
  induction k with
  | zero =>
    show pM (pM M 27 g (M 41 0)) 34 g (M 42 0) 27 u = _
    rw [pMn (by decide), pM_at]
    by_cases e : u = g
    · rw [if_pos ⟨rfl, e⟩, if_pos e]
    · rw [if_neg (fun q => e q.2), if_neg e]
  | succ k ih =>
    show pM (pM (keM M g k) 35 _ _) 36 _ _ 27 u = _
    simp (disch := omega) only [pMn]
    exact ih
theorem keM_34 (M : zMs) (g u : Nat) : ∀ k, keM M g k 34 u = if u = g then M 42 0 else M 34 u := by
  intro k
  induction k with
  | zero =>
    show pM (pM M 27 g (M 41 0)) 34 g (M 42 0) 34 u = _
    rw [pM_at]
    by_cases e : u = g
    · rw [if_pos ⟨rfl, e⟩, if_pos e]
    · rw [if_neg (fun q => e q.2), if_neg e, pMn (by decide)]
  | succ k ih =>
    show pM (pM (keM M g k) 35 _ _) 36 _ _ 34 u = _
    simp (disch := omega) only [pMn]
    exact ih
theorem keM_35 (M : zMs) (g : Nat) : ∀ k u, keM M g k 35 u = (if 3 * g ≤ u ∧ u < 3 * g + k then M 43 (u - 3 * g) else M 35 u) ∧ keM M g k 36 u = (if 3 * g ≤ u ∧ u < 3 * g + k then M 44 (u - 3 * g) else M 36 u) := by
  intro k
  induction k with
  | zero =>
    intro u
    rw [if_neg (by omega), if_neg (by omega)]
    show pM (pM M 27 g (M 41 0)) 34 g (M 42 0) 35 u = _ ∧ pM (pM M 27 g (M 41 0)) 34 g (M 42 0) 36 u = _
    simp (disch := omega) only [pMn, and_self]
  | succ k ih =>
    intro u
    obtain ⟨i1, i2⟩ := ih u
    show pM (pM (keM M g k) 35 (3 * g + k) (M 43 k)) 36 (3 * g + k) (M 44 k) 35 u = _ ∧ pM (pM (keM M g k) 35 (3 * g + k) (M 43 k)) 36 (3 * g + k) (M 44 k) 36 u = _
    by_cases e : u = 3 * g + k
    · rw [if_pos (by omega), if_pos (by omega), show u - 3 * g = k by omega, e, pMn (by decide), pM_s, pM_s]
      exact ⟨rfl, rfl⟩
    · rw [pMn (by decide), pMi e, pMi e, pMn (by decide), i1, i2]
      by_cases e2 : 3 * g ≤ u ∧ u < 3 * g + k
      · rw [if_pos e2, if_pos e2, if_pos (by omega), if_pos (by omega)]
        exact ⟨rfl, rfl⟩
      · rw [if_neg e2, if_neg e2, if_neg (by omega), if_neg (by omega)]
        exact ⟨rfl, rfl⟩
theorem keep_eq (hg : g < 40) (M : zMs) : fX10_keep M (nI g) = some (keM M g 3) := by
  have cg : (nI g).toNatClampNeg = g := nI_clamp (by omega)
  have gg : ¬ (nI g < 0 ∨ 40 ≤ g) := fun q => q.elim (nI_pos (by omega)) (by omega)
  unfold fX10_keep
  rw [cg, gd_t gg, st_s, gd_t gg, pMn (by decide), st_s, st_s]
  refine lp_up (body := bKe (nI g)) (fun k => (nI k, keM M g k)) 3 (by omega) ?_ (fun k hk => ?_) ?_
  · show _ = (nI 0, _)
    rw [nI_0]
    rfl
  · have a43 : keM M g k 43 k = M 43 k := by rw [keM_o _ _ (by omega)]
    have a44 : keM M g k 44 k = M 44 k := by rw [keM_o _ _ (by omega)]
    unfold bKe
    simp (disch := omega) only [Nat.add_sub_cancel, nI_0, c2I, c3I, c4I, c6I, c8I, c9I, c10I, c15I, c16I, c20I, c30I, c40I, c48I, c60I, c100I, c120I, c159I, c160I, c239I, c240I, c256I, c300I, c318I, c320I, c720I, c840I, c960I, c2520I, c36000I, c1048576I, nI_1, nI_add, pk_mul, nI_pred1, nI_pm1, pk_sub, pk_div, nI_clamp, nI_lz, nI_leI, nI_ltI, nI_eq, nI_z, nI_lez, nI_gez, nI_gtz, nI_m, nI_m2, nI_lem, nI_ltm, nleF, leT, ltT, ltF, eqT, eqF, false_or, or_false, not_false_eq_true, not_true_eq_false, gd_T, st_q, cl_q, cl2_q, cxr_q, cxl_q, i10, if_true, if_false, Bool.false_eq_true, pMn, a43, a44]
    rfl
  · unfold bKe
    dsimp only
    rw [if_pos (by decide)]
/-- the stickings of a ball -/
def soM (M : zMs) (t ball : Nat) : Nat → zMs
  | 0 => M
  | k + 1 => pM (soM M t ball k) 39 (8 * ball + k) (M 16 (8 * t + k) + 1)
theorem soM_o (M : zMs) (t ball : Nat) {d : Nat} (hd : d ≠ 39) : ∀ k, soM M t ball k d = M d := by
  intro k
  induction k with
  | zero => rfl
  | succ k ih => exact (pMn hd _ _).trans ih
theorem soM_a (M : zMs) (t ball : Nat) : ∀ n u, soM M t ball n 39 u = if 8 * ball ≤ u ∧ u < 8 * ball + n then M 16 (8 * t + (u - 8 * ball)) + 1 else M 39 u := by
  intro n
  induction n with
  | zero => intro u; rw [if_neg (by omega)]; rfl
  | succ n ih =>
    intro u
    show pM (soM M t ball n) 39 (8 * ball + n) (M 16 (8 * t + n) + 1) 39 u = _
    rw [pM_at]
    by_cases e : u = 8 * ball + n
    · rw [if_pos ⟨rfl, e⟩, if_pos (by omega), show u - 8 * ball = n by omega]
    · rw [if_neg (fun q => e q.2), ih u]
      by_cases e2 : 8 * ball ≤ u ∧ u < 8 * ball + n
      · rw [if_pos e2, if_pos (by omega)]
      · rw [if_neg e2, if_neg (by omega)]
/-- a game's rows, place by place -/
theorem gm_pt (h : gmOk M g) (hT : nT M ≤ nT M1) (q25 : M1 25 g = M 25 g) (q26 : M1 26 g = M 26 g) (q34 : M1 34 g = M 34 g) (q35 : ∀ k, k < 3 → M1 35 (3 * g + k) = M 35 (3 * g + k)) (q28 : M1 28 = M 28) (q29 : M1 29 = M 29) (q30 : M1 30 = M 30) (q31 : M1 31 = M 31) (q32 : M1 32 = M 32) (q33 : M1 33 = M 33) (q37 : ∀ b, b < 3 → M1 37 (3 * g + b) = M 37 (3 * g + b)) (q38 : ∀ b s, b < 3 → s < 300 → M1 38 (300 * (3 * g + b) + s) = M 38 (300 * (3 * g + b) + s)) (q39 : ∀ b k, b < 3 → k < 8 → M1 39 (8 * (3 * g + b) + k) = M 39 (8 * (3 * g + b) + k)) : gmOk M1 g := by
  obtain ⟨⟨t, g1, g1b⟩, g2, g3, g4, g5, g6, g7⟩ := h
  have eL : nL M1 g = nL M g := by unfold nL; rw [q26]
  have eD : nD M1 g = nD M g := by unfold nD; rw [q34]
  have hd := (rng_n g3 (by omega)).2.2
  refine ⟨⟨t, by omega, by rw [q25]; exact g1b⟩, by rw [q26]; exact g2, by rw [q34]; exact g3, fun k hk => ?_, fun k hk => ?_, fun j hj => ?_, fun b hb => ?_⟩
  · rw [eD] at hk
    obtain ⟨j, hj, a1, a2⟩ := g4 k hk
    exact ⟨j, hj, by rw [q35 k (by unfold nD at hk; omega)]; exact a1, by rw [q29]; exact a2⟩
  · rw [q28]; exact g5 k hk
  · rw [q29, q30, q31, q32, q33]
    exact g6 j hj
  · rw [eL] at hb
    obtain ⟨N, N1, N2, N3, N4, N5⟩ := g7 b hb
    exact ⟨N, N1, N2, by rw [q37 b (by omega)]; exact N3, fun s hs => by rw [q38 b s (by omega) (by omega)]; exact N4 s hs, fun k hk => by rw [q39 b k (by omega) hk]; exact N5 k hk⟩
theorem fMap_c {f f1 : Nat → Option Nat} : ∀ (l : List Nat), (∀ w, w ∈ l → f w = f1 w) → l.filterMap f = l.filterMap f1 := by
  intro l
  induction l with
  | nil => intro _; rw [List.filterMap_nil, List.filterMap_nil]
  | cons a l ih =>
    intro h
    rw [List.filterMap_cons, List.filterMap_cons, h a (List.mem_cons_self ..), ih (fun w hw => h w (List.mem_cons_of_mem _ hw))]
theorem entS_p {ball bi st0 : Nat} (q38 : M1 38 (300 * ball + st0 - 1) = M 38 (300 * ball + st0 - 1)) (q39 : ∀ k, k < 8 → M1 39 (8 * ball + k) = M 39 (8 * ball + k)) : entS M1 ball bi st0 = entS M ball bi st0 := by
  unfold entS
  refine fMap_c _ (fun w hw => ?_)
  have hw := List.mem_range.mp hw
  have e : pt M1 ball st0 w = pt M ball st0 w := by
    unfold pt
    rw [q38]
    by_cases w0 : w = 0
    · rw [if_pos w0, if_pos w0]
    · rw [if_neg w0, if_neg w0]
      by_cases w1 : w = 1
      · rw [if_pos w1, if_pos w1]
      · rw [if_neg w1, if_neg w1, show 8 * ball + w - 2 = 8 * ball + (w - 2) by omega, q39 (w - 2) (by omega)]
  rw [e]
theorem entB_p {ball bi : Nat} (hN : (M 37 ball).toNatClampNeg ≤ 300) (q37 : M1 37 ball = M 37 ball) (q38 : ∀ s, s < 300 → M1 38 (300 * ball + s) = M 38 (300 * ball + s)) (q39 : ∀ k, k < 8 → M1 39 (8 * ball + k) = M 39 (8 * ball + k)) : entB M1 ball bi = entB M ball bi := by
  unfold entB
  rw [q37]
  exact fm_c (fun q hq => entS_p (by rw [show 300 * ball + (q + 1) - 1 = 300 * ball + q by omega]; exact q38 q (by omega)) q39)
end PFI
