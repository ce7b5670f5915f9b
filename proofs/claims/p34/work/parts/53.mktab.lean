/-! addTable -/
section PT3
variable {S S1 S2 : zSt} {M M1 : zMs}
theorem add_table (h : Tie S M) (h6 : nT M < 6) {i1 i2 : Int32} (r1 : inR i1 0 100) (r2 : inR i2 1 9) : ∃ S2, fX9_addTable S i1 i2 = some (.inr (nI (nT M), S2)) ∧ Tie S2 (pM (pM (pM (pM (pM M 0 0 0) 2 (nT M) i1) 3 (nT M) i2) 7 (nT M) (-1)) 1 0 (nI (nT M + 1))) := by
  obtain ⟨n1, n2, n3, n4, n5, n6, n7, n8, n9, n10, n11⟩ := h.2.2.1
  obtain ⟨f8, f0, f7, f12, f13, f23⟩ := n6 (nT M) (Nat.le_refl _)
  obtain ⟨w1, w2, w3, w4, w5, w6, w7, w8, w9, w10, w11, w12⟩ := h.1
  obtain ⟨S1, e1, x1, v8, v0, vn0, v13, v12, vv⟩ := table_init (S := S) (t := nT M) f0 f13 f12 f7 f8 i1 i2
  have l0 : zLs S1 0 (nT M) := eqX_ls x1 (np0' (by decide)) (fun g => npk (show (23 : Nat) ≠ 0 by decide) (show (23 : Nat) ≠ 13 by decide) (show (23 : Nat) ≠ 12 by decide) (show (23 : Nat) ≠ 7 by decide) (show (23 : Nat) ≠ 8 by decide)) n3
  obtain ⟨S2, e2, l2, xB⟩ := add_eq (S := S1) (i := 0) (j := nT M) l0 (by omega) vv
  have hAG := ag_addTable h h6 x1 v8 v0 v13 v12 l2 xB rfl
  have F1 : fY S S1 (pTab (nT M)) := fY_X x1
  have F2 : fY S1 S2 (fun c => (c.1 = 0 ∨ c.1 = 23) ∧ c.2.1 = 0) := fY_B xB
  have F := fY_t F1 F2
  have np : ∀ c : zId, c.1 ≠ 0 → c.1 ≠ 13 → c.1 ≠ 12 → c.1 ≠ 7 → c.1 ≠ 8 → c.1 ≠ 23 → ¬ (pTab (nT M) c ∨ (c.1 = 0 ∨ c.1 = 23) ∧ c.2.1 = 0) := fun c a0 a13 a12 a7 a8 a23 q => q.elim (npk a0 a13 a12 a7 a8) (fun q => q.1.elim a0 a23)
  have V2 : ∀ c : zId, ¬ (pTab (nT M) c ∨ (c.1 = 0 ∨ c.1 = 23) ∧ c.2.1 = 0) → zV S2 c = zV S c := fun c hc => (F c hc).2.2.1
  have eT : nT (pM (pM (pM (pM (pM M 0 0 0) 2 (nT M) i1) 3 (nT M) i2) 7 (nT M) (-1)) 1 0 (nI (nT M + 1))) = nT M + 1 := by
    unfold nT
    rw [pM_s]
    exact nI_clamp (by unfold nT at h6; omega)
  have hb0 : nB M (nT M) = 0 := by
    have := ((w4 (nT M) h6).2 (Nat.le_refl _)).1
    unfold nB
    rw [this]
    rfl
  refine ⟨S2, ?_, ?_, hAG, ?_, ?_⟩
  · have hs : zI S (0, 0, 0) 2 = nI (nT M) := n3.1
    unfold fX9_addTable
    rw [dR_in r1, cx_r, dR_in r2, cx_r, zLs_size n3, cl_s, if_pos (by rw [c6I]; exact nI_lt h6 (by omega)), hs, nI_clamp (by omega), st_s, e1, cl_s, e2, cl_s, zLs_size l2, cl_s, nI_pred]
    rfl
  · -- the reference's rows
    obtain ⟨k1, k1a, k1b, rfl⟩ := inR_of r1 (m := 0) (n := 100) (by decide) (by decide) (by decide) (by decide)
    have hT7 : ∀ t, pM (pM (pM (pM (pM M 0 0 0) 2 (nT M) (nI k1)) 3 (nT M) i2) 7 (nT M) (-1)) 1 0 (nI (nT M + 1)) 7 t = if t = nT M then -1 else M 7 t := by
      intro t
      show pM (pM (pM (pM M 0 0 0) 2 (nT M) (nI k1)) 3 (nT M) i2) 7 (nT M) (-1) 7 t = _
      rw [pM_at]
      by_cases e : t = nT M
      · rw [if_pos ⟨rfl, e⟩, if_pos e]
      · rw [if_neg (fun q => e q.2), if_neg e]; rfl
    have hT2 : ∀ t, pM (pM (pM (pM (pM M 0 0 0) 2 (nT M) (nI k1)) 3 (nT M) i2) 7 (nT M) (-1)) 1 0 (nI (nT M + 1)) 2 t = if t = nT M then nI k1 else M 2 t := by
      intro t
      show pM (pM M 0 0 0) 2 (nT M) (nI k1) 2 t = _
      rw [pM_at]
      by_cases e : t = nT M
      · rw [if_pos ⟨rfl, e⟩, if_pos e]
      · rw [if_neg (fun q => e q.2), if_neg e]; rfl
    refine ⟨⟨nT M + 1, Nat.zero_le _, by omega, pM_s ..⟩, w2, w3, fun t ht => ⟨(w4 t ht).1, fun hn => (w4 t ht).2 (by rw [eT] at hn; omega)⟩, fun t ht => ?_, w6, fun t k ht hk => ⟨(w7 t k ht hk).1, fun hn => (w7 t k ht hk).2 (by rw [eT] at hn; omega)⟩, fun t j ht hj => ⟨(w8 t j ht hj).1, fun hn => (w8 t j ht hj).2 (by rw [eT] at hn; omega)⟩, fun g hg => ⟨fun hn => gm_mono ((w9 g hg).1 hn) (by rw [eT]; omega) rfl rfl rfl (fun _ _ => rfl) (fun _ _ => rfl) (fun _ _ => ⟨rfl, rfl, rfl, rfl, rfl⟩) rfl rfl rfl, (w9 g hg).2⟩, w10, w11, w12⟩
    rw [eT] at ht
    rw [hT7, hT2]
    by_cases e : t = nT M
    · rw [if_pos e, if_pos e]
      exact ⟨⟨k1, k1a, k1b, rfl⟩, Or.inl rfl⟩
    · rw [if_neg e, if_neg e]
      exact w5 t (by omega)
  · -- names
    refine ⟨?_, ?_, by rw [eT]; exact l2, ?_, fun t ht => ?_, fun t ht => ?_, fun t b ht hb => ?_, fun g hg => ?_, fun n hn => ?_, fun t j n ht hq => ?_, fun g j n hg hq => ?_⟩
    · rw [V2 _ (np _ (by decide) (by decide) (by decide) (by decide) (by decide) (by decide))]; exact n1
    · rw [V2 _ (np _ (by decide) (by decide) (by decide) (by decide) (by decide) (by decide))]; exact n2
    · exact eqB_ls xB (by decide) (eqX_ls x1 np01 (fun g => npk (show (23 : Nat) ≠ 0 by decide) (show (23 : Nat) ≠ 13 by decide) (show (23 : Nat) ≠ 12 by decide) (show (23 : Nat) ≠ 7 by decide) (show (23 : Nat) ≠ 8 by decide)) n4)
    · rw [eT] at ht
      refine eqB_ls xB (by omega) ?_
      by_cases e : t = nT M
      · subst e
        have : nB (pM (pM (pM (pM (pM M 0 0 0) 2 (nT M) i1) 3 (nT M) i2) 7 (nT M) (-1)) 1 0 (nI (nT M + 1))) (nT M) = 0 := hb0
        rw [this]
        unfold zLs
        rw [v0, vn0]
        refine ⟨nI_0.symm, fun g hg => ?_, fun _ => rfl, fun q => absurd rfl q⟩
        rw [(x1 _ (npk (show (23 : Nat) ≠ 0 by decide) (show (23 : Nat) ≠ 13 by decide) (show (23 : Nat) ≠ 12 by decide) (show (23 : Nat) ≠ 7 by decide) (show (23 : Nat) ≠ 8 by decide))).2.2.2.2]
        exact f23 g
      · exact eqX_ls x1 (np0 e) (fun g => npk (show (23 : Nat) ≠ 0 by decide) (show (23 : Nat) ≠ 13 by decide) (show (23 : Nat) ≠ 12 by decide) (show (23 : Nat) ≠ 7 by decide) (show (23 : Nat) ≠ 8 by decide)) (n5 t (by omega))
    · rw [eT] at ht
      obtain ⟨q8, q0, q7, q12, q13, q23⟩ := n6 t (by omega)
      have hne : t ≠ nT M := by omega
      refine ⟨?_, ?_, ?_, ?_, ?_, fun g => ?_⟩
      · rw [V2 _ (fun q => q.elim (np8 hne) (fun q => q.1.elim (by decide : ¬ (8 : Nat) = 0) (by decide : ¬ (8 : Nat) = 23)))]; exact q8
      · rw [V2 _ (fun q => q.elim (np0 hne) (fun q => absurd q.2 (by show ¬ t + 2 = 0; omega)))]; exact q0
      · rw [V2 _ (fun q => q.elim (npr (Or.inr (Or.inr rfl)) (Or.inr hne)) (fun q => q.1.elim (by decide : ¬ (7 : Nat) = 0) (by decide : ¬ (7 : Nat) = 23)))]; exact q7
      · rw [V2 _ (fun q => q.elim (np12 hne) (fun q => q.1.elim (by decide : ¬ (12 : Nat) = 0) (by decide : ¬ (12 : Nat) = 23)))]; exact q12
      · rw [V2 _ (fun q => q.elim (np13 hne) (fun q => q.1.elim (by decide : ¬ (13 : Nat) = 0) (by decide : ¬ (13 : Nat) = 23)))]; exact q13
      · rw [V2 _ (fun q => q.elim (npk (show (23 : Nat) ≠ 0 by decide) (show (23 : Nat) ≠ 13 by decide) (show (23 : Nat) ≠ 12 by decide) (show (23 : Nat) ≠ 7 by decide) (show (23 : Nat) ≠ 8 by decide)) (fun q => absurd q.2 (by show ¬ t + 2 = 0; omega)))]; exact q23 g
    · have hb : nB M t ≤ b := hb
      rw [V2 _ (np _ (show (2 : Nat) ≠ 0 by decide) (show (2 : Nat) ≠ 13 by decide) (show (2 : Nat) ≠ 12 by decide) (show (2 : Nat) ≠ 7 by decide) (show (2 : Nat) ≠ 8 by decide) (show (2 : Nat) ≠ 23 by decide))]
      exact n7 t b ht hb
    · have hg : nG M ≤ g := hg
      obtain ⟨q3, q7, q12, q13, q6, q14, q15, q16⟩ := n8 g hg
      refine ⟨?_, ?_, ?_, ?_, ?_, ?_, ?_, ?_⟩
      · rw [V2 _ (np _ (show (3 : Nat) ≠ 0 by decide) (show (3 : Nat) ≠ 13 by decide) (show (3 : Nat) ≠ 12 by decide) (show (3 : Nat) ≠ 7 by decide) (show (3 : Nat) ≠ 8 by decide) (show (3 : Nat) ≠ 23 by decide))]; exact q3
      · rw [V2 _ (fun q => q.elim (npr (Or.inr (Or.inr rfl)) (Or.inl (by decide))) (fun q => q.1.elim (by decide : ¬ (7 : Nat) = 0) (by decide : ¬ (7 : Nat) = 23)))]; exact q7
      · rw [V2 _ (fun q => q.elim np121 (fun q => q.1.elim (by decide : ¬ (12 : Nat) = 0) (by decide : ¬ (12 : Nat) = 23)))]; exact q12
      · rw [V2 _ (fun q => q.elim np131 (fun q => q.1.elim (by decide : ¬ (13 : Nat) = 0) (by decide : ¬ (13 : Nat) = 23)))]; exact q13
      · rw [V2 _ (np _ (show (6 : Nat) ≠ 0 by decide) (show (6 : Nat) ≠ 13 by decide) (show (6 : Nat) ≠ 12 by decide) (show (6 : Nat) ≠ 7 by decide) (show (6 : Nat) ≠ 8 by decide) (show (6 : Nat) ≠ 23 by decide))]; exact q6
      · rw [V2 _ (np _ (show (14 : Nat) ≠ 0 by decide) (show (14 : Nat) ≠ 13 by decide) (show (14 : Nat) ≠ 12 by decide) (show (14 : Nat) ≠ 7 by decide) (show (14 : Nat) ≠ 8 by decide) (show (14 : Nat) ≠ 23 by decide))]; exact q14
      · rw [V2 _ (np _ (show (15 : Nat) ≠ 0 by decide) (show (15 : Nat) ≠ 13 by decide) (show (15 : Nat) ≠ 12 by decide) (show (15 : Nat) ≠ 7 by decide) (show (15 : Nat) ≠ 8 by decide) (show (15 : Nat) ≠ 23 by decide))]; exact q15
      · rw [V2 _ (np _ (show (16 : Nat) ≠ 0 by decide) (show (16 : Nat) ≠ 13 by decide) (show (16 : Nat) ≠ 12 by decide) (show (16 : Nat) ≠ 7 by decide) (show (16 : Nat) ≠ 8 by decide) (show (16 : Nat) ≠ 23 by decide))]; exact q16
    · rw [(F (10, 0, 0) (np _ (by decide) (by decide) (by decide) (by decide) (by decide) (by decide))).2.1] at hn
      rw [V2 _ (np _ (show (4 : Nat) ≠ 0 by decide) (show (4 : Nat) ≠ 13 by decide) (show (4 : Nat) ≠ 12 by decide) (show (4 : Nat) ≠ 7 by decide) (show (4 : Nat) ≠ 8 by decide) (show (4 : Nat) ≠ 23 by decide))]
      exact n9 n hn
    · rw [eT] at ht
      rw [(F (10, 0, 0) (np _ (by decide) (by decide) (by decide) (by decide) (by decide) (by decide))).2.1]
      by_cases e : t = nT M
      · subst e
        have q2 : zQ S2 (13, 0, nT M) = zQ S1 (13, 0, nT M) := (F2 (13, 0, nT M) (fun q => q.1.elim (by decide : ¬ (13 : Nat) = 0) (by decide : ¬ (13 : Nat) = 23))).2.2.2.2 rfl
        rw [q2, v13] at hq
        cases hq
      · rw [(F (13, 0, t) (fun q => q.elim (np13 e) (fun q => q.1.elim (by decide : ¬ (13 : Nat) = 0) (by decide : ¬ (13 : Nat) = 23)))).2.2.2.2 rfl] at hq
        exact n10 t j n (by omega) hq
    · have hg : g < nG M := hg
      rw [(F (10, 0, 0) (np _ (by decide) (by decide) (by decide) (by decide) (by decide) (by decide))).2.1]
      rw [(F (13, 1, g) (fun q => q.elim np131 (fun q => q.1.elim (by decide : ¬ (13 : Nat) = 0) (by decide : ¬ (13 : Nat) = 23)))).2.2.2.2 rfl] at hq
      exact n11 g j n hg hq
  · intro g hg
    have hg : g < nG M := hg
    exact lg_fY h.2.2.2 F hg (np _ (show (3 : Nat) ≠ 0 by decide) (show (3 : Nat) ≠ 13 by decide) (show (3 : Nat) ≠ 12 by decide) (show (3 : Nat) ≠ 7 by decide) (show (3 : Nat) ≠ 8 by decide) (show (3 : Nat) ≠ 23 by decide)) (np _ (show (16 : Nat) ≠ 0 by decide) (show (16 : Nat) ≠ 13 by decide) (show (16 : Nat) ≠ 12 by decide) (show (16 : Nat) ≠ 7 by decide) (show (16 : Nat) ≠ 8 by decide) (show (16 : Nat) ≠ 23 by decide)) (ents_eq2 rfl rfl rfl rfl)
theorem ok_addTable (S : zSt) (M : zMs) (i1 i2 : Int32) (h : Tie S M) : zOk Tie [2, 3] (fun y : (Int32 × zSt) => (y.1).toInt64) (fun y : (Int32 × zSt) => y.2) (fX9_addTable S i1 i2) (fun b : Int32 => b.toInt64) (fX10_addTable M i1 i2) := by
  have hT := nT6 h.1
  by_cases r1 : inR i1 0 100
  · by_cases r2 : inR i2 1 9
    · by_cases h6 : nT M < 6
      · obtain ⟨S2, e1, t1⟩ := add_table h h6 r1 r2
        refine Or.inl ⟨(nI (nT M), S2), nI (nT M), _, e1, ?_, rfl, rfl, t1⟩
        have e0 : pM M 0 0 0 1 0 = nI (nT M) := nT_e h.1
        have ne6 : ¬ nI (nT M) = (6 : Int32) := by rw [c6I]; exact fun q => by have := (nI_eq (by omega) (by omega)).mp q; omega
        unfold fX10_addTable
        simp (disch := omega) only [in_in r1, in_in r2, nT_e h.1, ne6, refused_0, e0, st_q, cl_q, cl2_q, cxr_q, cxl_q, i10, if_true, if_false, Bool.false_eq_true, pM_s, pMn, nI_lz, nI_clamp, false_or, nleF, not_false_eq_true, gd_T, nI_1, nI_pred]
      · have e6 : nT M = 6 := by omega
        refine thr h (n := 3) (w := 2) (b := 0) (by simp) (by decide) ?_ ?_
        · unfold fX9_addTable
          rw [dR_in r1, cx_r, dR_in r2, cx_r, zLs_size (ls0 h), cl_s, e6, if_neg (by decide)]
        · have e61 : M 1 0 = 6 := by rw [nT_e h.1, e6]; decide
          unfold fX10_addTable
          simp only [in_in r1, in_in r2, e61, cl_q, st_q, i10, if_true, if_false, refused_n M i20, cl2_q]
    · refine thr h (n := 2) (w := 1) (b := 0) (by simp) (by decide) ?_ ?_
      · unfold fX9_addTable
        rw [dR_in r1, cx_r, dR_out r2, cx_l]
      · unfold fX10_addTable
        simp only [in_in r1, in_out r2, cl_q, st_q, i10, if_true, if_false, refused_n M i10, cl2_q]
  · refine thr h (n := 2) (w := 1) (b := 0) (by simp) (by decide) ?_ ?_
    · unfold fX9_addTable
      rw [dR_out r1, cx_l]
    · unfold fX10_addTable
      simp only [in_out r1, cl_q, st_q, i10, if_true, if_false, refused_n M i10, cl2_q]
end PT3
