/-! loops: stack, wanted -/
theorem lp_s {σ β : Type} (body : σ → Option (σ ⊕ β)) (n : Nat) {s s1 : σ} (h : body s = some (.inl s1)) : lp body (n + 1) s = lp body n s1 := by
  show (match body s with | none => none | some (.inl s1) => lp body n s1 | some (.inr b) => some b) = _
  rw [h]
theorem lp_e {σ β : Type} (body : σ → Option (σ ⊕ β)) (n : Nat) {s : σ} {b : β} (h : body s = some (.inr b)) : lp body (n + 1) s = some b := by
  show (match body s with | none => none | some (.inl s1) => lp body n s1 | some (.inr b) => some b) = _
  rw [h]
theorem lp_from {σ β : Type} (body : σ → Option (σ ⊕ β)) (f : Nat → σ) (n : Nat) (r : β) (hs : ∀ k, k < n → body (f k) = some (.inl (f (k + 1)))) (he : body (f n) = some (.inr r)) : ∀ d k fuel, k + d = n → d < fuel → lp body fuel (f k) = some r := by
  intro d
  induction d with
  | zero =>
    intro k fuel hk hf
    obtain ⟨m, rfl⟩ : ∃ m, fuel = m + 1 := ⟨fuel - 1, by omega⟩
    rw [show k = n by omega]
    exact lp_e body m he
  | succ d ih =>
    intro k fuel hk hf
    obtain ⟨m, rfl⟩ : ∃ m, fuel = m + 1 := ⟨fuel - 1, by omega⟩
    rw [lp_s body m (hs k (by omega))]
    exact ih (k + 1) m (by omega) (by omega)
/-- a loop that counts up -/
theorem lp_up {σ β : Type} {body : σ → Option (σ ⊕ β)} (f : Nat → σ) (n : Nat) {r : β} {fuel : Nat} (hf : n < fuel) {s0 : σ} (h0 : s0 = f 0) (hs : ∀ k, k < n → body (f k) = some (.inl (f (k + 1)))) (he : body (f n) = some (.inr r)) : lp body fuel s0 = some r := by
  rw [h0]
  exact lp_from body f n r hs he n 0 fuel (by omega) hf
section PL
variable {S : zSt} {M : zMs}
def tld (M : zMs) (g : Nat) : Nat → Int32
  | 0 => 0
  | k + 1 => tld M g k * 10 + M 35 (3 * g + k) + 1
theorem gm (h : WM M) {g : Nat} (hg : g < nG M) : gmOk M g := by
  have := nG40 h
  obtain ⟨w1, w2, w3, w4, w5, w6, w7, w8, w9, w10⟩ := h
  exact (w9 g (by omega)).1 hg
theorem nD3 (h : WM M) {g : Nat} (hg : g < nG M) : nD M g ≤ 3 := (rng_n (gm h hg).2.2.1 (by omega)).2.2
theorem nD_e (h : WM M) {g : Nat} (hg : g < nG M) : M 34 g = nI (nD M g) := (rng_n (gm h hg).2.2.1 (by omega)).1
theorem nL3 (h : WM M) {g : Nat} (hg : g < nG M) : nL M g ≤ 3 := (rng_n (gm h hg).2.1 (by omega)).2.2
theorem nL_e (h : WM M) {g : Nat} (hg : g < nG M) : M 26 g = nI (nL M g) := (rng_n (gm h hg).2.1 (by omega)).1
theorem stk_eq (h : Tie S M) {g k : Nat} (hg : g < nG M) (hk : k < nD M g) : zI S (14, 0, g) k = M 35 (3 * g + k) := by
  have h3 := nD3 h.1 hg
  obtain ⟨e1, e2⟩ := dm3 (t := g) (b := k) (by omega)
  rw [← ag h 35 (3 * g + k) (show (3 * g + k) / 3 < nG M ∧ (3 * g + k) % 3 < nD M ((3 * g + k) / 3) by rw [e1, e2]; exact ⟨hg, hk⟩)]
  show _ = zI S (14, 0, (3 * g + k) / 3) ((3 * g + k) % 3)
  rw [e1, e2]
theorem stacked_eq (h : Tie S M) {g : Nat} (hg : g < nG M) : fX5_stackedModes S 0 g = some (tld M g (nD M g)) := by
  have h3 := nD3 h.1 hg
  have hd : zI S (6, 0, g) 2 = nI (nD M g) := (ag h 34 g hg).trans (nD_e h.1 hg)
  unfold fX5_stackedModes
  rw [st_s, st_s]
  refine lp_up (fun k => (tld M g k, nI k)) (nD M g) (by omega) rfl (fun k hk => ?_) ?_
  · have c : (nI k).toNatClampNeg = k := nI_clamp (by omega)
    have k3 : ¬ (3 : Int32) ≤ nI k := by rw [show (3 : Int32) = nI 3 by decide, nI_leI (by omega) (by omega)]; omega
    have k4 : ¬ 3 ≤ k := by omega
    have kd : ¬ nI (nD M g) ≤ nI k := nI_ge hk (by omega)
    simp only [hd, kd, if_false, k3, c, nI_pos (show k < 2 ^ 31 by omega), false_or, k4, not_false_eq_true, gd_T, st_s, stk_eq h hg hk, nI_1]
    rfl
  · simp only [hd, Int32.le_refl, if_true]
theorem stack10_eq (h : WM M) {g : Nat} (hg : g < nG M) : fX10_stack M (nI g) = some (tld M g (nD M g), pM M 0 0 0) := by
  have h3 := nD3 h hg
  have h4 := nG40 h
  have cg : (nI g).toNatClampNeg = g := nI_clamp (by omega)
  have g4 : ¬ 40 ≤ g := by omega
  unfold fX10_stack
  rw [noGame_in h hg, cl2_s, if_pos rfl, st_s, st_s]
  refine lp_up (fun k => (tld M g k, nI k)) (nD M g) (by omega) rfl (fun k hk => ?_) ?_
  · have c : (nI (3 * g + k)).toNatClampNeg = 3 * g + k := nI_clamp (by omega)
    have k4 : ¬ 120 ≤ 3 * g + k := by omega
    have e34 : pM M 0 0 0 34 g = nI (nD M g) := nD_e h hg
    have e35 : pM M 0 0 0 35 (3 * g + k) = M 35 (3 * g + k) := rfl
    have kd : ¬ nI (nD M g) ≤ nI k := nI_ge hk (by omega)
    simp only [cg, nI_pos (show g < 2 ^ 31 by omega), false_or, g4, not_false_eq_true, gd_T, e34, kd, if_false, ix3, c, nI_pos (show 3 * g + k < 2 ^ 31 by omega), k4, e35, nI_1, st_s]
    rw [show (10 : Int32) * tld M g k = tld M g k * 10 from Int32.mul_comm _ _]
    rfl
  · have e34 : pM M 0 0 0 34 g = nI (nD M g) := nD_e h hg
    simp only [cg, nI_pos (show g < 2 ^ 31 by omega), false_or, g4, not_false_eq_true, gd_T, e34, Int32.le_refl, if_true]
theorem ok_stack (S : zSt) (M : zMs) (i : Int32) (h : Tie S M) : zOk Tie [1] (fun y : Int32 => y.toInt64) (fun _ : Int32 => S) (fX9_stack S i) (fun b : Int32 => b.toInt64) (fX10_stack M i) := by
  refine ok_gam h i (fun hi => ⟨?_, ?_⟩) (fun g hg e => ⟨tld M g (nD M g), ?_, ?_⟩)
  · unfold fX9_stack; rw [dG_out h hi, cx_l]
  · unfold fX10_stack; rw [noGame_out h.1 hi, cl2_s, if_neg i10]
  · subst e
    unfold fX9_stack
    rw [dG_in h hg, cx_r, stacked_eq h hg, cl_s]
  · subst e
    exact stack10_eq h.1 hg
/-- bad switches or coils -/
def bB (M : zMs) (j : Int32) (i : Nat) : Bool := if j = 0 then decide (M 16 i ≠ -1) else decide (¬ M 15 i < 40)
def bdS (M : zMs) (j : Int32) (t : Nat) : Nat → Int32
  | 0 => 0
  | b + 1 => if bB M j (8 * t + b) = true then bdS M j t b + 1 else bdS M j t b
theorem isBad_eq (M : zMs) (j : Int32) {i : Nat} (hi : i < 48) : fX10_isBad M (nI i) j = some (if bB M j i = true then 1 else 0) := by
  have c : (nI i).toNatClampNeg = i := nI_clamp (by omega)
  have h4 : ¬ 48 ≤ i := by omega
  unfold fX10_isBad bB
  by_cases hj : j = 0
  · by_cases h16 : M 16 i = -1
    · simp [hj, c, nI_pos (show i < 2 ^ 31 by omega), h4, gd_T, h16]
    · simp [hj, c, nI_pos (show i < 2 ^ 31 by omega), h4, gd_T, h16]
  · by_cases h15 : M 15 i < 40
    · simp [hj, c, nI_pos (show i < 2 ^ 31 by omega), h4, gd_T, h15]
    · simp [hj, c, nI_pos (show i < 2 ^ 31 by omega), h4, gd_T, h15]
theorem bad_eq (h : WM M) (j : Int32) {t : Nat} (ht : t < nT M) : fX10_bad M (nI t) j = some (bdS M j t (nB M t)) := by
  have h6 := nT6 h
  have h8 := nB8 h (t := t) (by omega)
  have cg : (nI t).toNatClampNeg = t := nI_clamp (by omega)
  have g4 : ¬ 6 ≤ t := by omega
  have e8 : (8 : Int32) * nI t + M 8 t = nI (8 * t + nB M t) := by rw [nB_e h (by omega), ix8]
  unfold fX10_bad
  rw [st_s, st_s]
  refine lp_up (fun k => (bdS M j t k, nI (8 * t + k))) (nB M t) (by omega) ?_ (fun k hk => ?_) ?_
  · rw [show (8 : Int32) = nI 8 by decide, pk_mul]; rfl
  · have kd : ¬ nI (8 * t + nB M t) ≤ nI (8 * t + k) := nI_ge (by omega) (by omega)
    simp only [cg, nI_pos (show t < 2 ^ 31 by omega), false_or, g4, not_false_eq_true, gd_T, e8, kd, if_false, isBad_eq M j (show 8 * t + k < 48 by omega), cl_s, st_s, nI_1]
    show _ = some (Sum.inl ((if bB M j (8 * t + k) = true then bdS M j t k + 1 else bdS M j t k), nI (8 * t + k + 1)))
    by_cases hb : bB M j (8 * t + k) = true
    · simp only [hb, if_true, i10, if_false]
    · simp only [hb, if_true, if_false, Int32.add_zero]
      rfl
  · simp only [cg, nI_pos (show t < 2 ^ 31 by omega), false_or, g4, not_false_eq_true, gd_T, e8, Int32.le_refl, if_true]
theorem sw_eq (h : Tie S M) {t b : Nat} (ht : t < nT M) (hb : b < nB M t) : zI S (2, t, b) 5 = M 15 (8 * t + b) ∧ zI S (2, t, b) 6 = M 16 (8 * t + b) := by
  obtain ⟨h6, h8⟩ := bump h.1 ht hb
  obtain ⟨e1, e2⟩ := dm8 (t := t) h8
  rw [← ag h 15 (8 * t + b) (dom8 ht hb h8), ← ag h 16 (8 * t + b) (dom8 ht hb h8)]
  show zI S (2, t, b) 5 = zI S (2, (8 * t + b) / 8, (8 * t + b) % 8) 5 ∧ zI S (2, t, b) 6 = zI S (2, (8 * t + b) / 8, (8 * t + b) % 8) 6
  rw [e1, e2]
  exact ⟨rfl, rfl⟩
theorem countF_eq (h : Tie S M) (j : Int32) {t : Nat} (ht : t < nT M) : fX7_countFaults S t j = some (bdS M j t (nB M t)) := by
  have h6 := nT6 h.1
  have h8 := nB8 h.1 (t := t) (by omega)
  unfold fX7_countFaults
  rw [st_s, st_s]
  refine lp_up (fun k => (bdS M j t k, nI k)) (nB M t) (by omega) rfl (fun k hk => ?_) ?_
  · have kd : ¬ nI (nB M t) ≤ nI k := nI_ge hk (by omega)
    obtain ⟨s5, s6⟩ := sw_eq h ht hk
    have hB : fX1_isBroken S t k = some (if M 15 (8 * t + k) < 40 then 0 else 1) := by
      unfold fX1_isBroken
      rw [s5]
      by_cases e : M 15 (8 * t + k) < 40
      · rw [if_pos e, if_pos e]
      · rw [if_neg e, if_neg e]
    show _ = some (Sum.inl ((if bB M j (8 * t + k) = true then bdS M j t k + 1 else bdS M j t k), nI (k + 1)))
    simp only [zLs_size (lsT h ht), cl_s, kd, if_false, zLs_get (lsT h ht) (show nB M t ≤ 64 by omega) hk, st_s, nI_1, hB, s6]
    unfold bB
    by_cases hj : j = 0
    · by_cases h16 : M 16 (8 * t + k) = -1
      · simp [hj, h16]
      · simp [hj, h16]
    · by_cases h15 : M 15 (8 * t + k) < 40
      · simp [hj, h15]
      · simp [hj, h15]
  · simp only [zLs_size (lsT h ht), cl_s, Int32.le_refl, if_true]
/-- of all tables, up to one -/
def bdT (M : zMs) (j : Int32) : Nat → Int32
  | 0 => 0
  | t + 1 => bdT M j t + bdS M j t (nB M t)
theorem bdS_ref (w j : Int32) (t n : Nat) : bdS (pM M 0 0 w) j t n = bdS M j t n := by
  induction n with
  | zero => rfl
  | succ n ih =>
    show (if bB M j (8 * t + n) = true then bdS (pM M 0 0 w) j t n + 1 else bdS (pM M 0 0 w) j t n) = _
    rw [ih]
    rfl
theorem wanted9_eq (h : Tie S M) {k : Nat} (hk : k < 2) : fX9_wanted S (nI k) = some (.inr (if (0 : Int32) < bdT M (nI k) (nT M) - M 50 k - M 50 (2 + k) then bdT M (nI k) (nT M) - M 50 k - M 50 (2 + k) else 0)) := by
  have h6 := nT6 h.1
  have e0 : zI S (20, 0, 0) k = M 50 k := by have := spare_eq h (a := 0) (by omega) hk; rw [show 2 * 0 + k = k by omega] at this; exact this
  have e1 : zI S (20, 1, 0) k = M 50 (2 + k) := spare_eq h (a := 1) (by omega) hk
  unfold fX9_wanted
  rw [dR_in (kind_in hk), cx_r, st_s, st_s]
  refine lp_up (fun t => (bdT M (nI k) t, nI t)) (nT M) (by omega) rfl (fun t ht => ?_) ?_
  · have kd : ¬ nI (nT M) ≤ nI t := nI_ge ht (by omega)
    simp only [zLs_size (ls0 h), cl_s, kd, if_false, zLs_get (ls0 h) (show nT M ≤ 64 by omega) ht, countF_eq h _ ht, st_s, nI_1]
    rfl
  · simp only [zLs_size (ls0 h), cl_s, Int32.le_refl, if_true, spareOf_eq S _ hk, e0, e1]
theorem neg_acc (a b x : Int32) : -a - b + x = x - a - b := by
  rw [Int32.sub_eq_add_neg, Int32.sub_eq_add_neg, Int32.sub_eq_add_neg, Int32.add_comm, ← Int32.add_assoc]
theorem wanted10_eq (h : WM M) {k : Nat} (hk : k < 2) : fX10_wanted M (nI k) = some ((if (0 : Int32) < bdT M (nI k) (nT M) - M 50 k - M 50 (2 + k) then bdT M (nI k) (nT M) - M 50 k - M 50 (2 + k) else 0), pM M 0 0 0) := by
  have h6 := nT6 h
  have ck : (nI k).toNatClampNeg = k := nI_clamp (by omega)
  have k4 : ¬ 4 ≤ k := by omega
  have e2 : (2 : Int32) + nI k = nI (2 + k) := by rw [show (2 : Int32) = nI 2 by decide, nI_add]
  have ck2 : (nI (2 + k)).toNatClampNeg = 2 + k := nI_clamp (by omega)
  have k42 : ¬ 4 ≤ 2 + k := by omega
  have g1 : ¬ (nI k < 0 ∨ 4 ≤ k) := fun q => q.elim (nI_pos (by omega)) k4
  have g2 : ¬ (nI (2 + k) < 0 ∨ 4 ≤ 2 + k) := fun q => q.elim (nI_pos (by omega)) k42
  have e50 : ∀ i, pM M 0 0 0 50 i = M 50 i := fun _ => rfl
  have e10 : pM M 0 0 0 1 0 = nI (nT M) := nT_e h
  unfold fX10_wanted
  rw [in_in (kind_in hk), cl_s, st_s, if_neg i10]
  dsimp only
  rw [refused_0, cl2_s, if_pos rfl, ck, e2, ck2, gd_t g1, gd_t g2, st_s, st_s, e50, e50]
  refine lp_up (fun t => (-M 50 k - M 50 (2 + k) + bdT M (nI k) t, nI t)) (nT M) (by omega) ?_ (fun t ht => ?_) ?_
  · show _ = (-M 50 k - M 50 (2 + k) + 0, (0 : Int32))
    rw [Int32.add_zero]
  · have kd : ¬ nI (nT M) ≤ nI t := nI_ge ht (by omega)
    have hb : fX10_bad (pM M 0 0 0) (nI t) (nI k) = some (bdS M (nI k) t (nB M t)) := by
      rw [bad_eq (wm_ref h 0) (nI k) ht, bdS_ref]; rfl
    simp only [e10, kd, if_false, hb, cl_s, st_s, nI_1]
    show _ = some (Sum.inl (-M 50 k - M 50 (2 + k) + (bdT M (nI k) t + bdS M (nI k) t (nB M t)), nI (t + 1)))
    rw [Int32.add_assoc]
  · simp only [e10, Int32.le_refl, if_true, neg_acc]
    by_cases h0 : (0 : Int32) < bdT M (nI k) (nT M) - M 50 k - M 50 (2 + k)
    · rw [if_pos h0, if_pos (Int32.le_of_lt h0)]
    · rw [if_neg h0]
      by_cases h1 : (0 : Int32) ≤ bdT M (nI k) (nT M) - M 50 k - M 50 (2 + k)
      · rw [if_pos h1]
        have : bdT M (nI k) (nT M) - M 50 k - M 50 (2 + k) = 0 := Int32.le_antisymm (Int32.not_lt.mp h0) h1
        rw [this]
      · rw [if_neg h1]
theorem ok_wanted (S : zSt) (M : zMs) (i : Int32) (h : Tie S M) : zOk Tie [2] (fun y : Int32 => y.toInt64) (fun _ : Int32 => S) (fX9_wanted S i) (fun b : Int32 => b.toInt64) (fX10_wanted M i) := by
  by_cases hr : inR i 0 1
  · obtain ⟨k, hk, rfl⟩ := kind_of hr
    exact Or.inl ⟨_, _, pM M 0 0 0, wanted9_eq h hk, wanted10_eq h.1 hk, rfl, rfl, tie_ref h 0⟩
  · refine thr h (n := 2) (w := 1) (b := 0) (by simp) (by decide) ?_ ?_
    · unfold fX9_wanted
      rw [dR_out hr, cx_l]
    · unfold fX10_wanted
      rw [in_out hr, cl_s, st_s, if_pos rfl]
      dsimp only
      rw [refused_n M i10, cl2_s, if_neg i10]
end PL
