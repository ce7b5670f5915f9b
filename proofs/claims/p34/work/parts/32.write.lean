/-! calls that write one number, and those that read one of a switch or a van -/
section PW
variable {S : zSt} {M : zMs}
theorem gd_T {β : Type} [Decidable True] (k : Option β) : gd True k = k := if_pos trivial
theorem ix8 (t b : Nat) : (8 : Int32) * nI t + nI b = nI (8 * t + b) := by
  rw [show (8 : Int32) = nI 8 by decide, pk_mul, nI_add]
theorem ix4 (t b : Nat) : (4 : Int32) * nI t + nI b = nI (4 * t + b) := by
  rw [show (4 : Int32) = nI 4 by decide, pk_mul, nI_add]
theorem ix3 (t b : Nat) : (3 : Int32) * nI t + nI b = nI (3 * t + b) := by
  rw [show (3 : Int32) = nI 3 by decide, pk_mul, nI_add]
theorem ix2 (t b : Nat) : (2 : Int32) * nI t + nI b = nI (2 * t + b) := by
  rw [show (2 : Int32) = nI 2 by decide, pk_mul, nI_add]
theorem thr (h : Tie S M) {α β : Type} {nums : List Nat} {n : Nat} {w : Int32} {fv : α → Int64} {fs : α → zSt} {f : Option ((Nat × zSt) ⊕ α)} {gv : β → Int64} {f1 : Option (β × zMs)} {b : β} (hn : n ∈ nums) (hw : w = kL nums n) (e1 : f = some (.inl (n, S))) (e2 : f1 = some (b, pM M 0 0 w)) : zOk Tie nums fv fs f gv f1 :=
  Or.inr ⟨(n, S), b, pM M 0 0 w, e1, e2, hn, hw, tie_ref h w⟩
theorem inR_of {v a b : Int32} (h : inR v a b) {m n : Nat} (ha : a = nI m) (hb : b = nI n) (hn : n < 2 ^ 31) (hm : m ≤ n) : ∃ k, m ≤ k ∧ k ≤ n ∧ v = nI k := by
  subst ha; subst hb
  have h0 : ¬ v < 0 := by
    have := nI_pos' (n := m) (by omega)
    exact nlt_of (Int32.le_trans this h.1)
  obtain ⟨j, hj, rfl⟩ := nI_of h0
  have a1 := h.1
  have a2 := h.2
  rw [nI_leI (by omega) hj] at a1
  rw [nI_leI hj hn] at a2
  exact ⟨j, a1, a2, rfl⟩
theorem bump (h : WM M) {t b : Nat} (ht : t < nT M) (hb : b < nB M t) : t < 6 ∧ b < 8 := by
  have h6 := nT6 h
  have := nB8 h (t := t) (by omega)
  omega
theorem dm8 {t b : Nat} (hb : b < 8) : (8 * t + b) / 8 = t ∧ (8 * t + b) % 8 = b := by omega
theorem dm4 {t b : Nat} (hb : b < 4) : (4 * t + b) / 4 = t ∧ (4 * t + b) % 4 = b := by omega
theorem dm3 {t b : Nat} (hb : b < 3) : (3 * t + b) / 3 = t ∧ (3 * t + b) % 3 = b := by omega
theorem dm2 {t b : Nat} (hb : b < 2) : (2 * t + b) / 2 = t ∧ (2 * t + b) % 2 = b := by omega
/-- both got one number, at the same place -/
theorem ag_upd {S1 : zSt} {M1 : zMs} (h : AG S M) (k0 i0 : Nat) (v : Int32) (hd : ∀ k i, dom M1 k i → dom M k i) (hS : ∀ k i, dom M k i → vS S1 k i = if k = k0 ∧ i = i0 then v else vS S k i) (hM : ∀ k i, dom M k i → M1 k i = if k = k0 ∧ i = i0 then v else M k i) : AG S1 M1 := by
  intro k i hk
  have hk0 := hd k i hk
  rw [hS k i hk0, hM k i hk0]
  by_cases e : k = k0 ∧ i = i0
  · rw [if_pos e, if_pos e]
  · rw [if_neg e, if_neg e]; exact h k i hk0
theorem pM_at (k0 i0 : Nat) (v : Int32) (k i : Nat) : pM M k0 i0 v k i = if k = k0 ∧ i = i0 then v else M k i := by
  unfold pM upd
  by_cases e : k = k0
  · subst e
    rw [if_pos rfl]
    by_cases e2 : i = i0
    · rw [if_pos e2, if_pos ⟨rfl, e2⟩]
    · rw [if_neg e2, if_neg (fun h => e2 h.2)]
  · rw [if_neg e, if_neg (fun h => e h.1)]
theorem pM_s (k i : Nat) (v : Int32) : pM M k i v k i = v := by rw [pM_at, if_pos ⟨rfl, rfl⟩]
theorem pM_two (k0 i0 : Nat) (v w : Int32) (k i : Nat) (hk : dom M k i) : pM (pM M 0 0 w) k0 i0 v k i = if k = k0 ∧ i = i0 then v else M k i := by
  rw [pM_at]
  by_cases e : k = k0 ∧ i = i0
  · rw [if_pos e, if_pos e]
  · rw [if_neg e, if_neg e, pM_at, if_neg]
    rintro ⟨rfl, -⟩
    exact hk
/-- a number of the class's, read at all places -/
theorem zI_at (c : zId) (j : Nat) (v : Int32) (d : zId) (i : Nat) : zI (pI S c j v) d i = if d = c ∧ i = j then v else zI S d i := by
  rw [zI_pI]
  by_cases e : d = c
  · rw [if_pos e]
    unfold upd
    by_cases e2 : i = j
    · rw [if_pos e2, if_pos ⟨e, e2⟩]
    · rw [if_neg e2, if_neg (fun h => e2 h.2)]
  · rw [if_neg e, if_neg (fun h => e h.1)]
theorem vMd_pI (c : zId) (j : Nat) (v : Int32) (hc : c.1 ≠ 4) (d : zId) (a k : Nat) (x : Int32) : vMd (pI S c j v) d a k x = vMd S d a k x := by
  unfold vMd
  rw [zQ_pI]
  cases zQ S d a with
  | none => rfl
  | some n =>
    show (if zI (pI S c j v) (4, n, 0) k = -1 then -2 else zI (pI S c j v) (4, n, 0) k) = (if zI S (4, n, 0) k = -1 then (-2 : Int32) else zI S (4, n, 0) k)
    rw [zI_pIn]
    intro e
    rw [← e] at hc
    exact hc rfl
theorem nv_pI (c : zId) (j : Nat) (v : Int32) (hc : c.1 ≠ 0) (h : NV S M) : NV (pI S c j v) M := by
  have ls : ∀ i n, zLs S i n → zLs (pI S c j v) i n := by
    intro i n hl
    unfold zLs at hl ⊢
    rw [zI_pIn S (fun e => hc (by rw [← e]))]
    exact hl
  obtain ⟨h1, h2, h3, h4, h5, h6⟩ := h
  exact ⟨h1, h2, ls _ _ h3, ls _ _ h4, fun t ht => ls _ _ (h5 t ht), h6⟩
theorem lg_pI (c : zId) (j : Nat) (v : Int32) (hc : c.1 ≠ 3 ∨ j ≠ 4) (h : LG S M) : LG (pI S c j v) M := by
  intro g hg
  obtain ⟨h1, h2⟩ := h g hg
  refine ⟨?_, h2⟩
  rw [zI_at, if_neg]
  · exact h1
  · rintro ⟨e, e2⟩
    rcases hc with hc | hc
    · exact hc (by rw [← e])
    · exact hc e2.symm
/-- tables' numbers -/
theorem vS_tab {t j : Nat} (k0 : Nat) (hk : (j = 4 ∧ k0 = 7) ∨ (j = 5 ∧ k0 = 4) ∨ (j = 6 ∧ k0 = 5) ∨ (j = 7 ∧ k0 = 6)) (v : Int32) (k i : Nat) : vS (pI S (8, t, 0) j v) k i = if k = k0 ∧ i = t then v else vS S k i := by
  have hm : ∀ d a b x, vMd (pI S (8, t, 0) j v) d a b x = vMd S d a b x := vMd_pI _ _ _ (show (8 : Nat) ≠ 4 by decide)
  unfold vS
  rcases hk with ⟨rfl, rfl⟩ | ⟨rfl, rfl⟩ | ⟨rfl, rfl⟩ | ⟨rfl, rfl⟩ <;> split <;> (try simp [zI_at, hm]) <;> (intro e; exfalso; revert e; assumption)
theorem ok_rob (S : zSt) (M : zMs) (i i2 : Int32) (h : Tie S M) : zOk Tie [1, 2, 3] (fun y : (Int32 × zSt) => (y.1).toInt64) (fun y : (Int32 × zSt) => y.2) (fX9_rob S i i2) (fun b : Int32 => b.toInt64) (fX10_rob M i i2) := by
  have h6 := nT6 h.1
  rcases ixc i (nT M) (by omega) with hi | ⟨t, ht, rfl⟩
  · refine thr h (n := 1) (w := 1) (b := 0) (by simp) (by decide) ?_ ?_
    · unfold fX9_rob; rw [dT_out h hi, cx_l]
    · unfold fX10_rob
      by_cases hr : inR i2 1 100
      · simp only [in_in hr, isTable_out h.1 hi, cl_s, st_s, cl2_s, if_true, refused_n M i10, i10, if_false]
      · simp only [in_out hr, isTable_out h.1 hi, cl_s, st_s, cl2_s, if_true, refused_n M i10, i10, if_false]
  · have hc : (nI t).toNatClampNeg = t := nI_clamp (by omega)
    have hg : (¬ (nI t < 0 ∨ 6 ≤ t)) = True := eq_true (fun q => q.elim (nI_pos (by omega)) (by omega))
    have hgg : zI S (8, t, 0) 5 = M 4 t := ag h 4 t ht
    by_cases hr : inR i2 1 100
    · by_cases hb : i2 ≤ M 4 t
      · refine Or.inl ⟨(M 4 t - i2, pI S (8, t, 0) 5 (M 4 t - i2)), M 4 t - i2, pM (pM M 0 0 0) 4 t (M 4 t - i2), ?_, ?_, rfl, rfl, ?_⟩
        · unfold fX9_rob
          rw [dT_in h ht, cx_r, dR_in hr, cx_r, hgg, if_pos hb, st_s, zI_at, if_pos ⟨rfl, rfl⟩]
        · unfold fX10_rob
          simp only [in_in hr, isTable_in h.1 ht, cl_s, st_s, cl2_s, if_true, refused_0, i10, if_false, hg, gd_T, hc, nlt_of hb, pM_s]
          rfl
        · refine ⟨?_, ?_, nv_pI _ _ _ (show (8 : Nat) ≠ 0 by decide) h.2.2.1, lg_pI _ _ _ (Or.inl (show (8 : Nat) ≠ 3 by decide)) h.2.2.2⟩
          · obtain ⟨w1, w2, w3, w4, w5⟩ := h.1
            refine ⟨w1, w2, w3, fun u hu => ⟨(w4 u hu).1, fun hn => ?_⟩, w5⟩
            obtain ⟨a1, a2, a3, a4⟩ := (w4 u hu).2 hn
            refine ⟨a1, ?_, a3, a4⟩
            rw [pM_at, if_neg]
            · exact a2
            · rintro ⟨-, e⟩
              have hn : nT M ≤ u := hn
              omega
          · exact ag_upd h.2.1 4 t (M 4 t - i2) (fun k i hd => hd) (fun k i _ => vS_tab 4 (Or.inr (Or.inl ⟨rfl, rfl⟩)) _ k i) (fun k i hd => pM_two 4 t _ _ k i hd)
      · refine thr h (n := 3) (w := 3) (b := 0) (by simp) (by decide) ?_ ?_
        · unfold fX9_rob
          rw [dT_in h ht, cx_r, dR_in hr, cx_r, hgg, if_neg hb]
        · unfold fX10_rob
          simp only [in_in hr, isTable_in h.1 ht, cl_s, st_s, cl2_s, if_true, i10, if_false, hg, gd_T, hc, Int32.not_le.mp hb, refused_n M i30]
    · refine thr h (n := 2) (w := 2) (b := 0) (by simp) (by decide) ?_ ?_
      · unfold fX9_rob
        rw [dT_in h ht, cx_r, dR_out hr, cx_l]
      · unfold fX10_rob
        simp only [in_out hr, isTable_in h.1 ht, cl_s, st_s, cl2_s, if_true, i10, if_false, refused_n M i20]
end PW
