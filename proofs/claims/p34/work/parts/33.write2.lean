/-! more of them -/
section PX
variable {S : zSt} {M : zMs}
/-- a read of one number of a switch -/
theorem ok_sw (h : Tie S M) (i j : Int32) {g : Int32 → Int64} {f : Option ((Nat × zSt) ⊕ Int32)} {f1 : Option (Int32 × zMs)} (ho : fX10_isSwitch M i j = some 0 → (cx (fX9_demandTable S i) (fun r1 => cx (fX9_demandBumper S r1 j) (fun _ => (none : Option ((Nat × zSt) ⊕ Int32)))) = some (.inl (1, S))) → f = some (.inl (1, S)) ∧ f1 = some (0, pM M 0 0 1)) (hi : ∀ t b, t < nT M → b < nB M t → i = nI t → j = nI b → ∃ v, f = some (.inr v) ∧ f1 = some (v, pM M 0 0 0)) :
    zOk Tie [1] g (fun _ : Int32 => S) f g f1 := by
  have h6 := nT6 h.1
  rcases ixc i (nT M) (by omega) with hi0 | ⟨t, ht, rfl⟩
  · obtain ⟨e1, e2⟩ := ho (isSwitch_outT h.1 hi0 j) (by rw [dT_out h hi0, cx_l])
    exact thr h (by simp) (by decide) e1 e2
  · have h8 := nB8 h.1 (t := t) (by omega)
    rcases ixc j (nB M t) (by omega) with hj | ⟨b, hb, rfl⟩
    · obtain ⟨e1, e2⟩ := ho (isSwitch_out h.1 ht hj) (by rw [dT_in h ht, cx_r, dB_out h ht hj, cx_l])
      exact thr h (by simp) (by decide) e1 e2
    · obtain ⟨v, e1, e2⟩ := hi t b ht hb rfl rfl
      exact Or.inl ⟨v, v, pM M 0 0 0, e1, e2, rfl, rfl, tie_ref h 0⟩
theorem dth {α : Type} {i j : Int32} {k : Nat → Nat × Nat → Option ((Nat × zSt) ⊕ α)} (e : cx (fX9_demandTable S i) (fun r1 => cx (fX9_demandBumper S r1 j) (fun _ => (none : Option ((Nat × zSt) ⊕ Int32)))) = some (.inl (1, S))) : cx (fX9_demandTable S i) (fun r1 => cx (fX9_demandBumper S r1 j) (fun r2 => k r1 r2)) = some (.inl (1, S)) := by
  revert e
  cases fX9_demandTable S i with
  | none => intro e; cases e
  | some a =>
    cases a with
    | inl e1 => intro e; rw [cx_l] at e; cases e; rfl
    | inr t =>
      show cx (fX9_demandBumper S t j) _ = _ → cx (fX9_demandBumper S t j) _ = _
      cases fX9_demandBumper S t j with
      | none => intro e; cases e
      | some b =>
        cases b with
        | inl e1 => intro e; rw [cx_l] at e; cases e; rfl
        | inr t => intro e; cases e
theorem in48 {t b : Nat} (ht : t < 6) (hb : b < 8) : (¬ (nI (8 * t + b) < 0 ∨ 48 ≤ (nI (8 * t + b)).toNatClampNeg)) = True := eq_true (nI_in (by omega) (by omega))
theorem cl48 {t b : Nat} (ht : t < 6) (hb : b < 8) : (nI (8 * t + b)).toNatClampNeg = 8 * t + b := nI_clamp (by omega)
theorem dom8 {t b : Nat} (ht : t < nT M) (hb : b < nB M t) (h8 : b < 8) : (8 * t + b) / 8 < nT M ∧ (8 * t + b) % 8 < nB M ((8 * t + b) / 8) := by
  obtain ⟨e1, e2⟩ := dm8 (t := t) h8
  rw [e1, e2]; exact ⟨ht, hb⟩
theorem ok_wear (S : zSt) (M : zMs) (i j : Int32) (h : Tie S M) : zOk Tie [1] (fun y : Int32 => y.toInt64) (fun _ : Int32 => S) (fX9_wear S i j) (fun b : Int32 => b.toInt64) (fX10_wear M i j) := by
  refine ok_sw h i j (fun e1 e2 => ⟨?_, ?_⟩) (fun t b ht hb ei ej => ?_)
  · unfold fX9_wear; exact dth e2
  · unfold fX10_wear; rw [noSwitch_0 e1, cl2_s, if_neg (by decide)]
  · subst ei; subst ej
    obtain ⟨h6, h8⟩ := bump h.1 ht hb
    obtain ⟨e1, e2⟩ := dm8 (t := t) h8
    refine ⟨M 15 (8 * t + b), ?_, ?_⟩
    · unfold fX9_wear
      rw [dT_in h ht, cx_r, dB_in h ht hb, cx_r, ← ag h 15 (8 * t + b) (dom8 ht hb h8)]
      show _ = some (Sum.inr (zI S (2, (8 * t + b) / 8, (8 * t + b) % 8) 5))
      rw [e1, e2]
    · unfold fX10_wear
      simp only [noSwitch_in h.1 ht hb, cl2_s, if_true, ix8, cl48 h6 h8]
      rw [gd_t (by have := in48 h6 h8; rw [cl48 h6 h8] at this; exact of_eq_true this)]
      rfl
theorem ok_sticks (S : zSt) (M : zMs) (i j : Int32) (h : Tie S M) : zOk Tie [1] (fun y : Int32 => (if y = 0 then (0 : Int64) else 1)) (fun _ : Int32 => S) (fX9_sticks S i j) (fun b : Int32 => (if b = 0 then (0 : Int64) else 1)) (fX10_sticks M i j) := by
  refine ok_sw h i j (fun e1 e2 => ⟨?_, ?_⟩) (fun t b ht hb ei ej => ?_)
  · unfold fX9_sticks; exact dth e2
  · unfold fX10_sticks; simp only [noSwitch_0 e1, cl2_s, st_s, i10, if_false]
  · subst ei; subst ej
    obtain ⟨h6, h8⟩ := bump h.1 ht hb
    obtain ⟨e1, e2⟩ := dm8 (t := t) h8
    have hg : zI S (2, t, b) 6 = M 16 (8 * t + b) := by
      rw [← ag h 16 (8 * t + b) (dom8 ht hb h8)]
      show _ = zI S (2, (8 * t + b) / 8, (8 * t + b) % 8) 6
      rw [e1, e2]
    have hz : pM M 0 0 0 16 (8 * t + b) = M 16 (8 * t + b) := rfl
    have g : ¬ (nI (8 * t + b) < 0 ∨ 48 ≤ 8 * t + b) := by have := in48 h6 h8; rw [cl48 h6 h8] at this; exact of_eq_true this
    refine ⟨if M 16 (8 * t + b) = -1 then 0 else 1, ?_, ?_⟩
    · unfold fX9_sticks
      rw [dT_in h ht, cx_r, dB_in h ht hb, cx_r, hg]
      by_cases e : M 16 (8 * t + b) = -1
      · rw [if_pos e, if_pos e]
      · rw [if_neg e, if_neg e]
    · unfold fX10_sticks
      simp only [noSwitch_in h.1 ht hb, cl2_s, st_s, if_true, ix8, cl48 h6 h8, hz]
      rw [gd_t g]
      by_cases e : M 16 (8 * t + b) = -1
      · rw [if_pos e, if_pos e]
      · rw [if_neg e, if_neg e]
theorem vS_sw {t b j : Nat} (hb : b < 8) (k0 : Nat) (hk : (j = 5 ∧ k0 = 15) ∨ (j = 6 ∧ k0 = 16)) (v : Int32) (k i : Nat) : vS (pI S (2, t, b) j v) k i = if k = k0 ∧ i = 8 * t + b then v else vS S k i := by
  have hm : ∀ d a b1 x, vMd (pI S (2, t, b) j v) d a b1 x = vMd S d a b1 x := vMd_pI _ _ _ (show (2 : Nat) ≠ 4 by decide)
  have hx : ∀ i, (i / 8 = t ∧ i % 8 = b) ↔ i = 8 * t + b := fun i => by omega
  unfold vS
  rcases hk with ⟨rfl, rfl⟩ | ⟨rfl, rfl⟩ <;> split <;> (try simp [zI_at, hm, hx]) <;> (intro e; exfalso; revert e; assumption)
theorem vS_stk (v : Int32) (k i : Nat) : vS (pI S (10, 0, 0) 8 v) k i = if k = 22 then v else vS S k i := by
  have hm : ∀ d a b1 x, vMd (pI S (10, 0, 0) 8 v) d a b1 x = vMd S d a b1 x := vMd_pI _ _ _ (show (10 : Nat) ≠ 4 by decide)
  unfold vS
  split <;> (try simp [zI_at, hm]) <;> (intro e; exfalso; revert e; assumption)
theorem vS_pts {t j : Nat} (hj : j < 8) (v : Int32) (k i : Nat) : vS (pI S (12, 0, t) j v) k i = if k = 14 ∧ i = 8 * t + j then v else vS S k i := by
  have hm : ∀ d a b1 x, vMd (pI S (12, 0, t) j v) d a b1 x = vMd S d a b1 x := vMd_pI _ _ _ (show (12 : Nat) ≠ 4 by decide)
  have hx : ∀ i, (i / 8 = t ∧ i % 8 = j) ↔ i = 8 * t + j := fun i => by omega
  unfold vS
  split <;> (try simp [zI_at, hm, hx]) <;> (intro e; exfalso; revert e; assumption)
theorem vS_van {a j : Nat} (hj : j < 2) (v : Int32) (k i : Nat) : vS (pI S (20, a, 0) j v) k i = if k = 50 ∧ i = 2 * a + j then v else vS S k i := by
  have hm : ∀ d a1 b1 x, vMd (pI S (20, a, 0) j v) d a1 b1 x = vMd S d a1 b1 x := vMd_pI _ _ _ (show (20 : Nat) ≠ 4 by decide)
  have hx : ∀ i, (i / 2 = a ∧ i % 2 = j) ↔ i = 2 * a + j := fun i => by omega
  unfold vS
  split <;> (try simp [zI_at, hm, hx]) <;> (intro e; exfalso; revert e; assumption)
theorem ok_setPoints (S : zSt) (M : zMs) (i j x : Int32) (h : Tie S M) : zOk Tie [1, 2, 3] (fun y : (Int32 × zSt) => (y.1).toInt64) (fun y : (Int32 × zSt) => y.2) (fX9_setPoints S i j x) (fun b : Int32 => b.toInt64) (fX10_setPoints M i j x) := by
  have h6 := nT6 h.1
  have hno : fX10_isSwitch M i j = some 0 → fX10_setPoints M i j x = some (0, pM M 0 0 1) := by
    intro e
    unfold fX10_setPoints
    by_cases hr : inR x 0 1000
    · simp only [e, in_in hr, cl_s, st_s, cl2_s, if_true, refused_n M i10, i10, if_false]
    · simp only [e, in_out hr, cl_s, st_s, cl2_s, if_true, refused_n M i10, i10, if_false]
  rcases ixc i (nT M) (by omega) with hi0 | ⟨t, ht, rfl⟩
  · refine thr h (n := 1) (w := 1) (b := 0) (by simp) (by decide) ?_ (hno (isSwitch_outT h.1 hi0 j))
    unfold fX9_setPoints
    rw [dT_out h hi0, cx_l]
  · have h8 := nB8 h.1 (t := t) (by omega)
    rcases ixc j (nB M t) (by omega) with hj | ⟨b, hb, rfl⟩
    · refine thr h (n := 1) (w := 1) (b := 0) (by simp) (by decide) ?_ (hno (isSwitch_out h.1 ht hj))
      unfold fX9_setPoints
      rw [dT_in h ht, cx_r, dB_out h ht hj, cx_l]
    · have hb8 : b < 8 := by omega
      have ht6 : t < 6 := by omega
      by_cases hr : inR x 0 1000
      · have hfr : zI S (8, t, 0) 4 = M 7 t := ag h 7 t ht
        by_cases hf : M 7 t = -1
        · have hg : zI S (12, 0, t) b = M 14 (8 * t + b) := by
            obtain ⟨e1, e2⟩ := dm8 (t := t) hb8
            rw [← ag h 14 (8 * t + b) (show (8 * t + b) / 8 < nT M by rw [e1]; exact ht)]
            show _ = zI S (12, 0, (8 * t + b) / 8) ((8 * t + b) % 8)
            rw [e1, e2]
          have g : ¬ (nI (8 * t + b) < 0 ∨ 48 ≤ 8 * t + b) := by have := in48 ht6 hb8; rw [cl48 ht6 hb8] at this; exact of_eq_true this
          have g6 : ¬ (nI t < 0 ∨ 6 ≤ t) := fun q => q.elim (nI_pos (by omega)) (by omega)
          have cb : (nI b).toNatClampNeg = b := nI_clamp (by omega)
          have ct6 : (nI t).toNatClampNeg = t := nI_clamp (by omega)
          have b8 : ¬ (8 : Int32) ≤ nI b := by rw [show (8 : Int32) = nI 8 by decide, nI_leI (by omega) (by omega)]; omega
          have gb : ¬ 8 ≤ b := by omega
          refine Or.inl ⟨(M 14 (8 * t + b), pI S (12, 0, t) b x), M 14 (8 * t + b), pM (pM M 0 0 0) 14 (8 * t + b) x, ?_, ?_, rfl, rfl, ?_⟩
          · unfold fX9_setPoints fX9_demandNoGame fX6_pointsOf fX6_changePoints
            simp only [dT_in h ht, dB_in h ht hb, dR_in hr, cx_r, hfr, hf, if_true, st_s, cl_s, nI_pos (show b < 2 ^ 31 by omega), if_false, b8, cb, false_or, gb, not_false_eq_true, gd_T, hg]
          · unfold fX10_setPoints fX10_isFree
            simp only [isSwitch_in h.1 ht hb, in_in hr, cl_s, st_s, cl2_s, if_true, refused_0, i10, if_false, ct6, gd_t g6, hf, ix8, cl48 ht6 hb8, gd_t g]
            rfl
          · refine ⟨?_, ?_, nv_pI _ _ _ (show (12 : Nat) ≠ 0 by decide) h.2.2.1, lg_pI _ _ _ (Or.inl (show (12 : Nat) ≠ 3 by decide)) h.2.2.2⟩
            · obtain ⟨w1, w2, w3, w4, w5, w6, w7, w8⟩ := h.1
              refine ⟨w1, w2, w3, w4, w5, w6, fun u k hu hk => ?_, w8⟩
              rw [pM_at]
              by_cases e : (14 : Nat) = 14 ∧ 8 * u + k = 8 * t + b
              · rw [if_pos e]
                obtain ⟨n, n1, n2, rfl⟩ := inR_of hr (m := 0) (n := 1000) (by decide) (by decide) (by decide) (by decide)
                refine ⟨⟨n, n1, n2, rfl⟩, fun hn => ?_⟩
                have hn : nT M ≤ u := hn
                omega
              · rw [if_neg e]
                exact w7 u k hu hk
            · exact ag_upd h.2.1 14 (8 * t + b) x (fun k i hd => hd) (fun k i _ => vS_pts hb8 _ k i) (fun k i hd => pM_two 14 _ _ _ k i hd)
        · refine thr h (n := 3) (w := 3) (b := 0) (by simp) (by decide) ?_ ?_
          · unfold fX9_setPoints fX9_demandNoGame
            simp only [dT_in h ht, dB_in h ht hb, dR_in hr, cx_r, hfr, hf, if_false, cx_l]
          · have g6 : ¬ (nI t < 0 ∨ 6 ≤ t) := fun q => q.elim (nI_pos (by omega)) (by omega)
            have ct6 : (nI t).toNatClampNeg = t := nI_clamp (by omega)
            unfold fX10_setPoints fX10_isFree
            simp only [isSwitch_in h.1 ht hb, in_in hr, cl_s, st_s, cl2_s, if_true, i10, if_false, ct6, gd_t g6, hf, refused_n M i30]
      · refine thr h (n := 2) (w := 2) (b := 0) (by simp) (by decide) ?_ ?_
        · unfold fX9_setPoints
          rw [dT_in h ht, cx_r, dB_in h ht hb, cx_r, dR_out hr, cx_l]
        · unfold fX10_setPoints
          simp only [isSwitch_in h.1 ht hb, in_out hr, cl_s, st_s, cl2_s, if_true, i10, if_false, refused_n M i20]
theorem ok_stick (S : zSt) (M : zMs) (i j : Int32) (h : Tie S M) : zOk Tie [1, 3] (fun y : (Int32 × zSt) => (y.1).toInt64) (fun y : (Int32 × zSt) => y.2) (fX9_stick S i j) (fun b : Int32 => b.toInt64) (fX10_stick M i j) := by
  have h6 := nT6 h.1
  have hno : fX10_isSwitch M i j = some 0 → fX10_stick M i j = some (0, pM M 0 0 1) := by
    intro e
    unfold fX10_stick
    simp only [e, cl_s, st_s, cl2_s, if_true, refused_n M i10, i10, if_false]
  rcases ixc i (nT M) (by omega) with hi0 | ⟨t, ht, rfl⟩
  · refine thr h (n := 1) (w := 1) (b := 0) (by simp) (by decide) ?_ (hno (isSwitch_outT h.1 hi0 j))
    unfold fX9_stick
    rw [dT_out h hi0, cx_l]
  · have h8 := nB8 h.1 (t := t) (by omega)
    rcases ixc j (nB M t) (by omega) with hj | ⟨b, hb, rfl⟩
    · refine thr h (n := 1) (w := 1) (b := 0) (by simp) (by decide) ?_ (hno (isSwitch_out h.1 ht hj))
      unfold fX9_stick
      rw [dT_in h ht, cx_r, dB_out h ht hj, cx_l]
    · have hb8 : b < 8 := by omega
      have ht6 : t < 6 := by omega
      have hS6 := nS60 h.1
      have hg : zI S (2, t, b) 6 = M 16 (8 * t + b) := by
        obtain ⟨e1, e2⟩ := dm8 (t := t) hb8
        rw [← ag h 16 (8 * t + b) (dom8 ht hb hb8)]
        show _ = zI S (2, (8 * t + b) / 8, (8 * t + b) % 8) 6
        rw [e1, e2]
      have hs : zI S (10, 0, 0) 8 = M 22 0 := ag h 22 0 rfl
      have g : ¬ (nI (8 * t + b) < 0 ∨ 48 ≤ 8 * t + b) := by have := in48 ht6 hb8; rw [cl48 ht6 hb8] at this; exact of_eq_true this
      by_cases hst : M 16 (8 * t + b) = -1
      · by_cases h60 : (60 : Int32) ≤ M 22 0
        · refine thr h (n := 3) (w := 2) (b := 0) (by simp) (by decide) ?_ ?_
          · unfold fX9_stick
            simp only [dT_in h ht, dB_in h ht hb, cx_r, hg, hst, if_true, hs, nlt_of h60, if_false]
          · unfold fX10_stick
            simp only [isSwitch_in h.1 ht hb, cl_s, st_s, cl2_s, i10, if_false, ix8, cl48 ht6 hb8, gd_t g, hst, if_true, h60, refused_n M i20]
        · have hlt : M 22 0 < 60 := Int32.not_le.mp h60
          have hk : nS M < 60 := by
            rw [nS_e h.1, show (60 : Int32) = nI 60 by decide, nI_ltI (by omega) (by omega)] at hlt
            exact hlt
          refine Or.inl ⟨(M 22 0, pI (pI S (2, t, b) 6 (M 22 0)) (10, 0, 0) 8 (M 22 0 + 1)), M 22 0, pM (pM (pM M 0 0 0) 16 (8 * t + b) (M 22 0)) 22 0 (M 22 0 + 1), ?_, ?_, rfl, rfl, ?_⟩
          · unfold fX9_stick
            have e1 : zI (pI S (2, t, b) 6 (M 22 0)) (10, 0, 0) 8 = M 22 0 := by
              rw [zI_at, if_neg (fun e => by cases congrArg Prod.fst e.1)]; exact hs
            have e2 : zI (pI (pI S (2, t, b) 6 (M 22 0)) (10, 0, 0) 8 (M 22 0 + 1)) (2, t, b) 6 = M 22 0 := by
              rw [zI_at, if_neg (fun e => by cases congrArg Prod.fst e.1), zI_at, if_pos ⟨rfl, rfl⟩]
            simp only [dT_in h ht, dB_in h ht hb, cx_r, hg, hst, if_true, hs, hlt, st_s, e1, e2]
          · unfold fX10_stick
            have e1 : pM M 0 0 0 22 0 = M 22 0 := rfl
            have e2 : pM (pM M 0 0 0) 16 (8 * t + b) (M 22 0) 22 0 = M 22 0 := rfl
            simp only [isSwitch_in h.1 ht hb, cl_s, st_s, cl2_s, i10, if_false, ix8, cl48 ht6 hb8, gd_t g, hst, if_true, h60, refused_0, e1, e2, pM_s]
            rw [nS_e h.1, nI_1, nI_pred]
          · have en : nS (pM (pM (pM M 0 0 0) 16 (8 * t + b) (M 22 0)) 22 0 (M 22 0 + 1)) = nS M + 1 := by
              unfold nS
              rw [pM_s, nS_e h.1, nI_1, nI_clamp (by omega), nI_clamp (by omega)]
            have a1 : ∀ k i, dom M k i → pM (pM (pM M 0 0 0) 16 (8 * t + b) (M 22 0)) 22 0 (M 22 0 + 1) k i = if k = 22 then M 22 0 + 1 else if k = 16 ∧ i = 8 * t + b then M 22 0 else M k i := by
              intro k i hd
              rw [pM_at]
              by_cases e : k = 22
              · subst e
                have hi : i = 0 := hd
                rw [if_pos ⟨rfl, hi⟩, if_pos rfl]
              · rw [if_neg (fun q => e q.1), if_neg e, pM_two _ _ _ _ k i hd]
            refine ⟨?_, ?_, nv_pI _ _ _ (show (10 : Nat) ≠ 0 by decide) (nv_pI _ _ _ (show (2 : Nat) ≠ 0 by decide) h.2.2.1), lg_pI _ _ _ (Or.inl (show (10 : Nat) ≠ 3 by decide)) (lg_pI _ _ _ (Or.inl (show (2 : Nat) ≠ 3 by decide)) h.2.2.2)⟩
            · obtain ⟨w1, w2, w3, w4, w5, w6, w7⟩ := h.1
              refine ⟨w1, w2, ?_, w4, w5, fun u k hu hk => ?_, w7⟩
              · rw [pM_s, nS_e h.1, nI_1]
                exact ⟨nS M + 1, Nat.zero_le _, by omega, rfl⟩
              · rw [en]
                obtain ⟨q1, q2⟩ := w6 u k hu hk
                have ex : pM (pM (pM M 0 0 0) 16 (8 * t + b) (M 22 0)) 22 0 (M 22 0 + 1) 16 (8 * u + k) = if 8 * u + k = 8 * t + b then M 22 0 else M 16 (8 * u + k) := by
                  show pM (pM M 0 0 0) 16 (8 * t + b) (M 22 0) 16 (8 * u + k) = _
                  rw [pM_at]
                  by_cases e : 8 * u + k = 8 * t + b
                  · rw [if_pos ⟨rfl, e⟩, if_pos e]
                  · rw [if_neg (fun q => e q.2), if_neg e]; rfl
                rw [ex]
                refine ⟨fun hkb => ?_, fun hkb => ?_⟩
                · obtain ⟨r1, r2, r3, r4, r5, r6⟩ := q1 hkb
                  refine ⟨r1, r2, r3, r4, r5, ?_⟩
                  by_cases e : 8 * u + k = 8 * t + b
                  · rw [if_pos e]
                    exact Or.inr ⟨nS M, by omega, nS_e h.1⟩
                  · rw [if_neg e]
                    rcases r6 with r6 | ⟨z, hz, r6⟩
                    · exact Or.inl r6
                    · exact Or.inr ⟨z, by omega, r6⟩
                · have hkb : nB M u ≤ k := hkb
                  obtain ⟨r1, r2⟩ := q2 hkb
                  refine ⟨?_, r2⟩
                  rw [if_neg]
                  · exact r1
                  · intro e
                    have : u = t := by omega
                    have : k = b := by omega
                    subst_vars
                    omega
            · intro k i hd
              have hd : dom M k i := hd
              rw [a1 k i hd, vS_stk]
              by_cases e : k = 22
              · rw [if_pos e, if_pos e]
              · rw [if_neg e, if_neg e, vS_sw hb8 16 (Or.inr ⟨rfl, rfl⟩)]
                by_cases e2 : k = 16 ∧ i = 8 * t + b
                · rw [if_pos e2, if_pos e2]
                · rw [if_neg e2, if_neg e2]; exact h.2.1 k i hd
      · refine thr h (n := 3) (w := 2) (b := 0) (by simp) (by decide) ?_ ?_
        · unfold fX9_stick
          simp only [dT_in h ht, dB_in h ht hb, cx_r, hg, hst, if_false]
        · unfold fX10_stick
          simp only [isSwitch_in h.1 ht hb, cl_s, st_s, cl2_s, i10, if_false, ix8, cl48 ht6 hb8, gd_t g, hst, if_true, refused_n M i20]
end PX
