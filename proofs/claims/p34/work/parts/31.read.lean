/-! what the calls demand; the calls that read -/
section PR
variable {S : zSt} {M : zMs}
theorem i10 : ¬ (1 : Int32) = 0 := by decide
theorem i20 : ¬ (2 : Int32) = 0 := by decide
theorem i30 : ¬ (3 : Int32) = 0 := by decide
theorem ag (h : Tie S M) (k i : Nat) (hd : dom M k i) : vS S k i = M k i := h.2.1 k i hd
theorem nT6 (h : WM M) : nT M ≤ 6 := (rng_n h.1 (by omega)).2.2
theorem nT_e (h : WM M) : M 1 0 = nI (nT M) := (rng_n h.1 (by omega)).1
theorem nG40 (h : WM M) : nG M ≤ 40 := (rng_n h.2.1 (by omega)).2.2
theorem nG_e (h : WM M) : M 24 0 = nI (nG M) := (rng_n h.2.1 (by omega)).1
theorem nS60 (h : WM M) : nS M ≤ 60 := (rng_n h.2.2.1 (by omega)).2.2
theorem nS_e (h : WM M) : M 22 0 = nI (nS M) := (rng_n h.2.2.1 (by omega)).1
theorem nB8 (h : WM M) {t : Nat} (ht : t < 6) : nB M t ≤ 8 := (rng_n (h.2.2.2.1 t ht).1 (by omega)).2.2
theorem nB_e (h : WM M) {t : Nat} (ht : t < 6) : M 8 t = nI (nB M t) := (rng_n (h.2.2.2.1 t ht).1 (by omega)).1
theorem zLs_size {i n : Nat} (h : zLs S i n) : fJ_size S i = some (nI n) := by
  unfold fJ_size
  rw [h.1]
theorem zLs_get {i n : Nat} (h : zLs S i n) (hn : n ≤ 64) {k : Nat} (hk : k < n) : fJ_get S i (nI k) = some k := by
  obtain ⟨h1, h2, h3, h4⟩ := h
  have hg : zN S (0, i, 0) 0 ≠ 0 := fun e => by have := h3 e; omega
  obtain ⟨h5, h6, h7, h8⟩ := h4 hg
  unfold fJ_get
  have e : (nI k).toNatClampNeg = k := nI_clamp (by omega)
  rw [gd_t ⟨hg, nI_pos (by omega), by rw [h1]; exact nI_lt hk (by omega), by rw [e]; omega, by rw [e]; omega⟩, e]
theorem ls0 (h : Tie S M) : zLs S 0 (nT M) := h.2.2.1.2.2.1
theorem ls1 (h : Tie S M) : zLs S 1 (nG M) := h.2.2.1.2.2.2.1
theorem lsT (h : Tie S M) {t : Nat} (ht : t < nT M) : zLs S (t + 2) (nB M t) := h.2.2.1.2.2.2.2.1 t ht
/-- an index, or none -/
theorem ixc (i : Int32) (n : Nat) (hn : n < 1000) : (i < 0 ∨ nI n ≤ i) ∨ ∃ k, k < n ∧ i = nI k := by
  rcases pk_ix i (n := n) (by omega) with h | h | h
  · exact Or.inl (Or.inl h)
  · exact Or.inl (Or.inr h)
  · exact Or.inr h
theorem dT_in (h : Tie S M) {t : Nat} (ht : t < nT M) : fX9_demandTable S (nI t) = some (.inr t) := by
  have hn := nT6 h.1
  unfold fX9_demandTable
  rw [st_s, if_neg (nI_pos (by omega)), zLs_size (ls0 h), cl_s, if_pos (nI_lt ht (by omega)), zLs_get (ls0 h) (by omega) ht, cl_s]
theorem nlt_of {i j : Int32} (h : j ≤ i) : ¬ i < j := Int32.not_lt.mpr h
theorem dT_out (h : Tie S M) {i : Int32} (hi : i < 0 ∨ nI (nT M) ≤ i) : fX9_demandTable S i = some (.inl (1, S)) := by
  unfold fX9_demandTable
  rw [st_s]
  by_cases h0 : i < 0
  · rw [if_pos h0]
  · rw [if_neg h0, zLs_size (ls0 h), cl_s, if_neg (nlt_of (hi.resolve_left h0))]
theorem dG_in (h : Tie S M) {g : Nat} (hg : g < nG M) : fX9_demandGame S (nI g) = some (.inr g) := by
  have hn := nG40 h.1
  unfold fX9_demandGame
  rw [st_s, if_neg (nI_pos (by omega)), zLs_size (ls1 h), cl_s, if_pos (nI_lt hg (by omega)), zLs_get (ls1 h) (by omega) hg, cl_s]
theorem dG_out (h : Tie S M) {i : Int32} (hi : i < 0 ∨ nI (nG M) ≤ i) : fX9_demandGame S i = some (.inl (1, S)) := by
  unfold fX9_demandGame
  rw [st_s]
  by_cases h0 : i < 0
  · rw [if_pos h0]
  · rw [if_neg h0, zLs_size (ls1 h), cl_s, if_neg (nlt_of (hi.resolve_left h0))]
theorem dB_in (h : Tie S M) {t b : Nat} (ht : t < nT M) (hb : b < nB M t) : fX9_demandBumper S t (nI b) = some (.inr (t, b)) := by
  have hn := nT6 h.1
  have h8 := nB8 h.1 (t := t) (by omega)
  unfold fX9_demandBumper
  rw [st_s, if_neg (nI_pos (by omega)), zLs_size (lsT h ht), cl_s, if_pos (nI_lt hb (by omega)), zLs_get (lsT h ht) (by omega) hb, cl_s]
theorem dB_out (h : Tie S M) {t : Nat} (ht : t < nT M) {i : Int32} (hi : i < 0 ∨ nI (nB M t) ≤ i) : fX9_demandBumper S t i = some (.inl (1, S)) := by
  unfold fX9_demandBumper
  rw [st_s]
  by_cases h0 : i < 0
  · rw [if_pos h0]
  · rw [if_neg h0, zLs_size (lsT h ht), cl_s, if_neg (nlt_of (hi.resolve_left h0))]
theorem dR_eq (S : zSt) (v a b : Int32) : fX9_demandRange S v a b = if v < a then some (.inl (2, S)) else if b < v then some (.inl (2, S)) else some (.inr ()) := by
  unfold fX9_demandRange
  rw [st_s]
  by_cases h1 : v < a
  · rw [if_pos h1, if_pos h1]
  · rw [if_neg h1, if_neg h1]
    by_cases h2 : b < v
    · rw [if_pos h2, if_neg (Int32.not_le.mpr h2)]
    · rw [if_neg h2, if_pos (Int32.not_lt.mp h2)]
/-- in a range or not -/
def inR (v a b : Int32) : Prop := a ≤ v ∧ v ≤ b
theorem dR_in {v a b : Int32} (h : inR v a b) : fX9_demandRange S v a b = some (.inr ()) := by
  rw [dR_eq, if_neg (nlt_of h.1), if_neg (nlt_of h.2)]
theorem dR_out {v a b : Int32} (h : ¬ inR v a b) : fX9_demandRange S v a b = some (.inl (2, S)) := by
  rw [dR_eq]
  by_cases h1 : v < a
  · rw [if_pos h1]
  · rw [if_neg h1]
    by_cases h2 : b < v
    · rw [if_pos h2]
    · exact absurd ⟨Int32.not_lt.mp h1, Int32.not_lt.mp h2⟩ h
theorem dLe_in {v a : Int32} (h : ¬ v < a) : fX9_demandLeast S v a = some (.inr ()) := by
  unfold fX9_demandLeast
  rw [if_pos (Int32.not_lt.mp h)]
theorem dLe_out {v a : Int32} (h : v < a) : fX9_demandLeast S v a = some (.inl (2, S)) := by
  unfold fX9_demandLeast
  rw [if_neg (Int32.not_le.mpr h)]
theorem in_in {v a b : Int32} (h : inR v a b) : fX10_in M v a b = some 1 := by
  rw [in_eq, if_neg (nlt_of h.1), if_neg (nlt_of h.2)]
theorem in_out {v a b : Int32} (h : ¬ inR v a b) : fX10_in M v a b = some 0 := by
  rw [in_eq]
  by_cases h1 : v < a
  · rw [if_pos h1]
  · rw [if_neg h1]
    by_cases h2 : b < v
    · rw [if_pos h2]
    · exact absurd ⟨Int32.not_lt.mp h1, Int32.not_lt.mp h2⟩ h
theorem refused_0 (M : zMs) : fX10_refused M 0 = some (0, pM M 0 0 0) := rfl
theorem refused_n (M : zMs) {w : Int32} (h : w ≠ 0) : fX10_refused M w = some (1, pM M 0 0 w) := by
  unfold fX10_refused
  rw [st_s, if_neg h]
theorem wm_ref (h : WM M) (w : Int32) : WM (pM M 0 0 w) := h
theorem dom_ref (w : Int32) (k i : Nat) : dom (pM M 0 0 w) k i = dom M k i := rfl
theorem tie_ref (h : Tie S M) (w : Int32) : Tie S (pM M 0 0 w) := by
  refine ⟨h.1, fun k i hd => ?_, h.2.2.1, h.2.2.2⟩
  have hd : dom M k i := hd
  have e : pM M 0 0 w k = M k := by
    unfold pM
    rw [if_neg]
    intro e
    subst e
    exact hd
  rw [e]
  exact h.2.1 k i hd
theorem noTable_in (h : WM M) {t : Nat} (ht : t < nT M) : fX10_noTable M (nI t) = some (0, pM M 0 0 0) := by
  unfold fX10_noTable
  simp only [isTable_in h ht, cl_s, st_s, i10, if_false, refused_0, cl2_s]
theorem noTable_out (h : WM M) {i : Int32} (hi : i < 0 ∨ nI (nT M) ≤ i) : fX10_noTable M i = some (1, pM M 0 0 1) := by
  unfold fX10_noTable
  simp only [isTable_out h hi, cl_s, st_s, if_true, refused_n M i10, cl2_s]
theorem isGame_in (h : WM M) {t : Nat} (ht : t < nG M) : fX10_isGame M (nI t) = some 1 := by
  have h4 := nG40 h
  unfold fX10_isGame
  rw [in_eq, cl_s, if_neg (nI_pos (by omega)), nG_e h, if_neg]
  rw [pred_lt (by omega) (by omega)]
  omega
theorem isGame_out (h : WM M) {i : Int32} (hi : i < 0 ∨ nI (nG M) ≤ i) : fX10_isGame M i = some 0 := by
  have h4 := nG40 h
  unfold fX10_isGame
  rw [in_eq, cl_s]
  by_cases h0 : i < 0
  · rw [if_pos h0]
  · rw [if_neg h0]
    obtain ⟨j, hj, rfl⟩ := nI_of h0
    rw [if_pos]
    rw [nG_e h, pred_lt (by omega) hj]
    have := hi.resolve_left h0
    rw [nI_leI (by omega) hj] at this
    exact this
theorem noGame_in (h : WM M) {t : Nat} (ht : t < nG M) : fX10_noGame M (nI t) = some (0, pM M 0 0 0) := by
  unfold fX10_noGame
  simp only [isGame_in h ht, cl_s, st_s, i10, if_false, refused_0, cl2_s]
theorem noGame_out (h : WM M) {i : Int32} (hi : i < 0 ∨ nI (nG M) ≤ i) : fX10_noGame M i = some (1, pM M 0 0 1) := by
  unfold fX10_noGame
  simp only [isGame_out h hi, cl_s, st_s, if_true, refused_n M i10, cl2_s]
theorem isSwitch_in (h : WM M) {t b : Nat} (ht : t < nT M) (hb : b < nB M t) : fX10_isSwitch M (nI t) (nI b) = some 1 := by
  have hn := nT6 h
  have h8 := nB8 h (t := t) (by omega)
  unfold fX10_isSwitch
  rw [isTable_in h ht, cl_s, st_s, if_neg (by decide), gd_t (nI_in (by omega) (by omega)), nI_clamp (by omega), nB_e h (by omega), in_eq, cl_s, if_neg (nI_pos (by omega)), if_neg (show ¬ nI (nB M t) - 1 < nI b by rw [pred_lt (by omega) (by omega)]; omega), if_neg (by decide)]
theorem isSwitch_out (h : WM M) {t : Nat} (ht : t < nT M) {i : Int32} (hi : i < 0 ∨ nI (nB M t) ≤ i) : fX10_isSwitch M (nI t) i = some 0 := by
  have hn := nT6 h
  have h8 := nB8 h (t := t) (by omega)
  unfold fX10_isSwitch
  rw [isTable_in h ht, cl_s, st_s, if_neg (by decide), gd_t (nI_in (by omega) (by omega)), nI_clamp (by omega), nB_e h (by omega), in_eq, cl_s]
  by_cases h0 : i < 0
  · rw [if_pos h0, if_pos rfl]
  · rw [if_neg h0]
    obtain ⟨j, hj, rfl⟩ := nI_of h0
    rw [if_pos (show nI (nB M t) - 1 < nI j from ?_), if_pos rfl]
    rw [pred_lt (by omega) hj]
    have := hi.resolve_left h0
    rw [nI_leI (by omega) hj] at this
    exact this
theorem isSwitch_outT (h : WM M) {i : Int32} (hi : i < 0 ∨ nI (nT M) ≤ i) (j : Int32) : fX10_isSwitch M i j = some 0 := by
  unfold fX10_isSwitch
  rw [isTable_out h hi, cl_s, st_s, if_pos rfl]
theorem noSwitch_in (h : WM M) {t b : Nat} (ht : t < nT M) (hb : b < nB M t) : fX10_noSwitch M (nI t) (nI b) = some (0, pM M 0 0 0) := by
  unfold fX10_noSwitch
  simp only [isSwitch_in h ht hb, cl_s, st_s, i10, if_false, refused_0, cl2_s]
theorem noSwitch_0 {i j : Int32} (hi : fX10_isSwitch M i j = some 0) : fX10_noSwitch M i j = some (1, pM M 0 0 1) := by
  unfold fX10_noSwitch
  simp only [hi, cl_s, st_s, if_true, refused_n M i10, cl2_s]
theorem van_c (i : Int32) : (i = 0 ∨ i = 1) ∨ (i ≠ 0 ∧ i ≠ 1 ∧ (i < 0 ∨ 1 < i)) := by
  rcases ixc i 2 (by omega) with h | ⟨k, hk, rfl⟩
  · refine Or.inr ⟨?_, ?_, ?_⟩
    · rintro rfl; revert h; decide
    · rintro rfl; revert h; decide
    · rcases h with h | h
      · exact Or.inl h
      · exact Or.inr (Int32.lt_of_lt_of_le (by decide) h)
  · left
    rcases (show k = 0 ∨ k = 1 by omega) with rfl | rfl
    · exact Or.inl rfl
    · exact Or.inr rfl
theorem dV_0 : fX9_demandVan S 0 = some (.inr 0) := rfl
theorem dV_1 : fX9_demandVan S 1 = some (.inr 1) := rfl
theorem dV_n {i : Int32} (h0 : i ≠ 0) (h1 : i ≠ 1) : fX9_demandVan S i = some (.inl (1, S)) := by
  unfold fX9_demandVan
  rw [st_s, if_neg h0, if_neg h1]
theorem isVan_0 : fX10_isVan M 0 = some 1 := rfl
theorem isVan_1 : fX10_isVan M 1 = some 1 := rfl
theorem isVan_n {i : Int32} (h : i < 0 ∨ 1 < i) : fX10_isVan M i = some 0 := by
  unfold fX10_isVan
  rw [in_eq, cl_s]
  by_cases h0 : i < 0
  · rw [if_pos h0]
  · rw [if_neg h0, if_pos (h.resolve_left h0)]
/-- a read of one number of a table -/
theorem ok_tab (h : Tie S M) (i : Int32) {f : Option ((Nat × zSt) ⊕ Int32)} {f1 : Option (Int32 × zMs)} (ho : (i < 0 ∨ nI (nT M) ≤ i) → f = some (.inl (1, S)) ∧ f1 = some (0, pM M 0 0 1)) (hi : ∀ t, t < nT M → i = nI t → ∃ v, f = some (.inr v) ∧ f1 = some (v, pM M 0 0 0)) :
    zOk Tie [1] (fun y : Int32 => y.toInt64) (fun _ : Int32 => S) f (fun b : Int32 => b.toInt64) f1 := by
  rcases ixc i (nT M) (by have := nT6 h.1; omega) with hi0 | ⟨t, ht, e⟩
  · exact Or.inr ⟨(1, S), 0, pM M 0 0 1, (ho hi0).1, (ho hi0).2, by simp, rfl, tie_ref h 1⟩
  · obtain ⟨v, e1, e2⟩ := hi t ht e
    exact Or.inl ⟨v, v, pM M 0 0 0, e1, e2, rfl, rfl, tie_ref h 0⟩
theorem ok_gam (h : Tie S M) (i : Int32) {f : Option ((Nat × zSt) ⊕ Int32)} {f1 : Option (Int32 × zMs)} (ho : (i < 0 ∨ nI (nG M) ≤ i) → f = some (.inl (1, S)) ∧ f1 = some (0, pM M 0 0 1)) (hi : ∀ t, t < nG M → i = nI t → ∃ v, f = some (.inr v) ∧ f1 = some (v, pM M 0 0 0)) :
    zOk Tie [1] (fun y : Int32 => y.toInt64) (fun _ : Int32 => S) f (fun b : Int32 => b.toInt64) f1 := by
  rcases ixc i (nG M) (by have := nG40 h.1; omega) with hi0 | ⟨t, ht, e⟩
  · exact Or.inr ⟨(1, S), 0, pM M 0 0 1, (ho hi0).1, (ho hi0).2, by simp, rfl, tie_ref h 1⟩
  · obtain ⟨v, e1, e2⟩ := hi t ht e
    exact Or.inl ⟨v, v, pM M 0 0 0, e1, e2, rfl, rfl, tie_ref h 0⟩
theorem ok_box (S : zSt) (M : zMs) (i : Int32) (h : Tie S M) : zOk Tie [1] (fun y : Int32 => y.toInt64) (fun _ : Int32 => S) (fX9_box S i) (fun b : Int32 => b.toInt64) (fX10_box M i) := by
  refine ok_tab h i (fun hi => ⟨?_, ?_⟩) (fun t ht e => ⟨M 4 t, ?_, ?_⟩)
  · unfold fX9_box; rw [dT_out h hi, cx_l]
  · unfold fX10_box; rw [noTable_out h.1 hi, cl2_s, if_neg (by decide)]
  · subst e; unfold fX9_box; rw [dT_in h ht, cx_r, ← ag h 4 t ht]; rfl
  · subst e; have := nT6 h.1; unfold fX10_box; rw [noTable_in h.1 ht, cl2_s, if_pos rfl, gd_t (nI_in (by omega) (by omega)), nI_clamp (by omega)]; rfl
theorem ok_missing (S : zSt) (M : zMs) (i : Int32) (h : Tie S M) : zOk Tie [1] (fun y : Int32 => y.toInt64) (fun _ : Int32 => S) (fX9_missing S i) (fun b : Int32 => b.toInt64) (fX10_missing M i) := by
  refine ok_tab h i (fun hi => ⟨?_, ?_⟩) (fun t ht e => ⟨M 6 t, ?_, ?_⟩)
  · unfold fX9_missing; rw [dT_out h hi, cx_l]
  · unfold fX10_missing; rw [noTable_out h.1 hi, cl2_s, if_neg (by decide)]
  · subst e; unfold fX9_missing; rw [dT_in h ht, cx_r, ← ag h 6 t ht]; rfl
  · subst e; have := nT6 h.1; unfold fX10_missing; rw [noTable_in h.1 ht, cl2_s, if_pos rfl, gd_t (nI_in (by omega) (by omega)), nI_clamp (by omega)]; rfl
theorem ok_gameAt (S : zSt) (M : zMs) (i : Int32) (h : Tie S M) : zOk Tie [1] (fun y : Int32 => y.toInt64) (fun _ : Int32 => S) (fX9_gameAt S i) (fun b : Int32 => b.toInt64) (fX10_gameAt M i) := by
  refine ok_tab h i (fun hi => ⟨?_, ?_⟩) (fun t ht e => ⟨M 7 t, ?_, ?_⟩)
  · unfold fX9_gameAt; rw [dT_out h hi, cx_l]
  · unfold fX10_gameAt; rw [noTable_out h.1 hi, cl2_s, if_neg (by decide)]
  · subst e; unfold fX9_gameAt; rw [dT_in h ht, cx_r, ← ag h 7 t ht]; rfl
  · subst e; have := nT6 h.1; unfold fX10_gameAt; rw [noTable_in h.1 ht, cl2_s, if_pos rfl, gd_t (nI_in (by omega) (by omega)), nI_clamp (by omega)]; rfl
theorem ok_score (S : zSt) (M : zMs) (i : Int32) (h : Tie S M) : zOk Tie [1] (fun y : Int32 => y.toInt64) (fun _ : Int32 => S) (fX9_score S i) (fun b : Int32 => b.toInt64) (fX10_score M i) := by
  refine ok_gam h i (fun hi => ⟨?_, ?_⟩) (fun t ht e => ⟨M 27 t, ?_, ?_⟩)
  · unfold fX9_score; rw [dG_out h hi, cx_l]
  · unfold fX10_score; rw [noGame_out h.1 hi, cl2_s, if_neg (by decide)]
  · subst e; unfold fX9_score; rw [dG_in h ht, cx_r, ← ag h 27 t ht]; rfl
  · subst e; have := nG40 h.1; unfold fX10_score; rw [noGame_in h.1 ht, cl2_s, if_pos rfl, gd_t (nI_in (by omega) (by omega)), nI_clamp (by omega)]; rfl
theorem ok_ballsLeft (S : zSt) (M : zMs) (i : Int32) (h : Tie S M) : zOk Tie [1] (fun y : Int32 => y.toInt64) (fun _ : Int32 => S) (fX9_ballsLeft S i) (fun b : Int32 => b.toInt64) (fX10_ballsLeft M i) := by
  refine ok_gam h i (fun hi => ⟨?_, ?_⟩) (fun t ht e => ⟨M 26 t, ?_, ?_⟩)
  · unfold fX9_ballsLeft; rw [dG_out h hi, cx_l]
  · unfold fX10_ballsLeft; rw [noGame_out h.1 hi, cl2_s, if_neg (by decide)]
  · subst e; unfold fX9_ballsLeft; rw [dG_in h ht, cx_r, ← ag h 26 t ht]; rfl
  · subst e; have := nG40 h.1; unfold fX10_ballsLeft; rw [noGame_in h.1 ht, cl2_s, if_pos rfl, gd_t (nI_in (by omega) (by omega)), nI_clamp (by omega)]; rfl
theorem ok_tables (S : zSt) (M : zMs) (h : Tie S M) : ∃ n M1, fX9_tables S = some n ∧ fX10_tables M = some (n, M1) ∧ Tie S M1 := by
  refine ⟨M 1 0, pM M 0 0 0, ?_, rfl, tie_ref h 0⟩
  unfold fX9_tables
  rw [zLs_size (ls0 h), cl_s, nT_e h.1]
theorem ok_games (S : zSt) (M : zMs) (h : Tie S M) : ∃ n M1, fX9_games S = some n ∧ fX10_games M = some (n, M1) ∧ Tie S M1 := by
  refine ⟨M 24 0, pM M 0 0 0, ?_, rfl, tie_ref h 0⟩
  unfold fX9_games
  rw [zLs_size (ls1 h), cl_s, nG_e h.1]
theorem ok_vanAt (S : zSt) (M : zMs) (i : Int32) (h : Tie S M) : zOk Tie [1] (fun y : Int32 => y.toInt64) (fun _ : Int32 => S) (fX9_vanAt S i) (fun b : Int32 => b.toInt64) (fX10_vanAt M i) := by
  rcases van_c i with (rfl | rfl) | ⟨h0, h1, h2⟩
  · exact Or.inl ⟨M 49 0, M 49 0, pM M 0 0 0, by rw [← ag h 49 0 (show 0 < 2 by decide)]; rfl, rfl, rfl, rfl, tie_ref h 0⟩
  · exact Or.inl ⟨M 49 1, M 49 1, pM M 0 0 0, by rw [← ag h 49 1 (show 1 < 2 by decide)]; rfl, rfl, rfl, rfl, tie_ref h 0⟩
  · refine Or.inr ⟨(1, S), 0, pM M 0 0 1, ?_, ?_, by simp, rfl, tie_ref h 1⟩
    · unfold fX9_vanAt; rw [dV_n h0 h1, cx_l]
    · unfold fX10_vanAt; simp only [isVan_n h2, cl_s, st_s, if_true, refused_n M i10, cl2_s, i10, if_false]
end PR
