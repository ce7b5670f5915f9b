/-! vans -/
section PV
variable {S : zSt} {M : zMs}
theorem van_d (i : Int32) : (∃ a, a < 2 ∧ i = nI a) ∨ (fX9_demandVan S i = some (.inl (1, S)) ∧ fX10_isVan M i = some 0) := by
  rcases van_c i with (rfl | rfl) | ⟨h0, h1, h2⟩
  · exact Or.inl ⟨0, by omega, rfl⟩
  · exact Or.inl ⟨1, by omega, rfl⟩
  · exact Or.inr ⟨dV_n h0 h1, isVan_n h2⟩
theorem dV_in {a : Nat} (ha : a < 2) : fX9_demandVan S (nI a) = some (.inr a) := by
  rcases (show a = 0 ∨ a = 1 by omega) with rfl | rfl
  · rfl
  · rfl
theorem isVan_in {a : Nat} (ha : a < 2) : fX10_isVan M (nI a) = some 1 := by
  rcases (show a = 0 ∨ a = 1 by omega) with rfl | rfl
  · rfl
  · rfl
theorem kind_of {j : Int32} (h : inR j 0 1) : ∃ k, k < 2 ∧ j = nI k := by
  obtain ⟨k, -, h2, e⟩ := inR_of h (m := 0) (n := 1) rfl rfl (by decide) (by decide)
  exact ⟨k, by omega, e⟩
theorem kind_in {k : Nat} (h : k < 2) : inR (nI k) 0 1 := by
  rcases (show k = 0 ∨ k = 1 by omega) with rfl | rfl
  · exact ⟨by decide, by decide⟩
  · exact ⟨by decide, by decide⟩
theorem spare_eq (h : Tie S M) {a k : Nat} (ha : a < 2) (hk : k < 2) : zI S (20, a, 0) k = M 50 (2 * a + k) := by
  obtain ⟨e1, e2⟩ := dm2 (t := a) hk
  rw [← ag h 50 (2 * a + k) (show 2 * a + k < 4 by omega)]
  show _ = zI S (20, (2 * a + k) / 2, 0) ((2 * a + k) % 2)
  rw [e1, e2]
theorem spareOf_eq (S : zSt) (a : Nat) {k : Nat} (hk : k < 2) : fX8_spareOf S a (nI k) = some (zI S (20, a, 0) k) := by
  have e : (nI k).toNatClampNeg = k := nI_clamp (by omega)
  have k2 : ¬ (2 : Int32) ≤ nI k := by rw [show (2 : Int32) = nI 2 by decide, nI_leI (by omega) (by omega)]; omega
  have k3 : ¬ 2 ≤ k := by omega
  unfold fX8_spareOf
  simp only [st_s, nI_pos (show k < 2 ^ 31 by omega), if_false, k2, e, false_or, k3, not_false_eq_true, gd_T]
theorem addSpare_eq (S : zSt) (a : Nat) {k : Nat} (hk : k < 2) (x : Int32) : fX8_addSpare S a (nI k) x = some (pI S (20, a, 0) k (zI S (20, a, 0) k + x)) := by
  have e : (nI k).toNatClampNeg = k := nI_clamp (by omega)
  have k2 : ¬ (2 : Int32) ≤ nI k := by rw [show (2 : Int32) = nI 2 by decide, nI_leI (by omega) (by omega)]; omega
  have k3 : ¬ 2 ≤ k := by omega
  unfold fX8_addSpare
  simp only [st_s, nI_pos (show k < 2 ^ 31 by omega), if_false, k2, e, false_or, k3, not_false_eq_true, gd_T]
theorem in4 {a k : Nat} (ha : a < 2) (hk : k < 2) : ¬ (nI (2 * a + k) < 0 ∨ 4 ≤ 2 * a + k) := fun q => q.elim (nI_pos (by omega)) (by omega)
theorem cl4 {a k : Nat} (ha : a < 2) (hk : k < 2) : (nI (2 * a + k)).toNatClampNeg = 2 * a + k := nI_clamp (by omega)
theorem ok_parts (S : zSt) (M : zMs) (i j : Int32) (h : Tie S M) : zOk Tie [1, 2] (fun y : Int32 => y.toInt64) (fun _ : Int32 => S) (fX9_parts S i j) (fun b : Int32 => b.toInt64) (fX10_parts M i j) := by
  rcases van_d (S := S) (M := M) i with ⟨a, ha, rfl⟩ | ⟨e1, e2⟩
  · by_cases hj : inR j 0 1
    · obtain ⟨k, hk, rfl⟩ := kind_of hj
      refine Or.inl ⟨M 50 (2 * a + k), M 50 (2 * a + k), pM M 0 0 0, ?_, ?_, rfl, rfl, tie_ref h 0⟩
      · unfold fX9_parts
        simp only [dV_in ha, cx_r, dR_in hj, spareOf_eq S a hk, cl_s, spare_eq h ha hk]
      · unfold fX10_parts
        simp only [isVan_in ha, cl_s, st_s, in_in hj, i10, if_false, refused_0, cl2_s, if_true, ix2, cl4 ha hk, gd_t (in4 ha hk)]
        rfl
    · refine thr h (n := 2) (w := 2) (b := 0) (by simp) (by decide) ?_ ?_
      · unfold fX9_parts
        rw [dV_in ha, cx_r, dR_out hj, cx_l]
      · unfold fX10_parts
        simp only [isVan_in ha, cl_s, st_s, in_out hj, i10, if_false, refused_n M i20, cl2_s, if_true]
  · refine thr h (n := 1) (w := 1) (b := 0) (by simp) (by decide) ?_ ?_
    · unfold fX9_parts
      rw [e1, cx_l]
    · unfold fX10_parts
      simp only [e2, cl_s, st_s, i10, if_false, refused_n M i10, cl2_s, if_true]
theorem ok_load (S : zSt) (M : zMs) (i j x : Int32) (h : Tie S M) : zOk Tie [1, 2, 3] (fun y : (Int32 × zSt) => (y.1).toInt64) (fun y : (Int32 × zSt) => y.2) (fX9_load S i j x) (fun b : Int32 => b.toInt64) (fX10_load_ M i j x) := by
  rcases van_d (S := S) (M := M) i with ⟨a, ha, rfl⟩ | ⟨e1, e2⟩
  · by_cases hj : inR j 0 1
    · by_cases hx : inR x 1 20
      · obtain ⟨k, hk, rfl⟩ := kind_of hj
        obtain ⟨n, n1, n2, rfl⟩ := inR_of hx (m := 1) (n := 20) (by decide) (by decide) (by decide) (by decide)
        obtain ⟨w1, w2, w3, w4, w5, w6, w7, w8, w9, w10, w11, w12⟩ := h.1
        obtain ⟨c, -, c2, ec⟩ := w11 (2 * a + k) (by omega)
        by_cases h20 : (20 : Int32) < M 50 (2 * a + k) + nI n
        · refine thr h (n := 3) (w := 3) (b := 0) (by simp) (by decide) ?_ ?_
          · unfold fX9_load
            simp only [dV_in ha, cx_r, dR_in hj, dR_in hx, spareOf_eq S a hk, cl_s, spare_eq h ha hk, Int32.not_le.mpr h20, if_false]
          · unfold fX10_load_
            simp only [isVan_in ha, cl_s, st_s, in_in hj, in_in hx, i10, if_false, if_true, ix2, cl4 ha hk, gd_t (in4 ha hk), h20, refused_n M i30, cl2_s]
        · have hle : M 50 (2 * a + k) + nI n ≤ 20 := Int32.not_lt.mp h20
          refine Or.inl ⟨(M 50 (2 * a + k) + nI n, pI S (20, a, 0) k (M 50 (2 * a + k) + nI n)), M 50 (2 * a + k) + nI n, pM (pM M 0 0 0) 50 (2 * a + k) (M 50 (2 * a + k) + nI n), ?_, ?_, rfl, rfl, ?_⟩
          · have e : zI (pI S (20, a, 0) k (M 50 (2 * a + k) + nI n)) (20, a, 0) k = M 50 (2 * a + k) + nI n := by rw [zI_at, if_pos ⟨rfl, rfl⟩]
            unfold fX9_load
            simp only [dV_in ha, cx_r, dR_in hj, dR_in hx, spareOf_eq _ a hk, cl_s, spare_eq h ha hk, hle, if_true, addSpare_eq S a hk, e]
          · unfold fX10_load_
            have e0 : pM M 0 0 0 50 (2 * a + k) = M 50 (2 * a + k) := rfl
            simp only [isVan_in ha, cl_s, st_s, in_in hj, in_in hx, i10, if_false, if_true, ix2, cl4 ha hk, gd_t (in4 ha hk), h20, refused_0, cl2_s, e0, pM_s]
          · refine ⟨⟨w1, w2, w3, w4, w5, w6, w7, w8, w9, w10, fun u hu => ?_, w12⟩, ?_, nv_pI _ _ _ (show (20 : Nat) ≠ 0 by decide) h.2.2.1, lg_pI _ _ _ (Or.inl (show (20 : Nat) ≠ 3 by decide)) h.2.2.2⟩
            · rw [pM_at]
              by_cases e : (50 : Nat) = 50 ∧ u = 2 * a + k
              · rw [if_pos e, ec, nI_add]
                refine ⟨c + n, Nat.zero_le _, ?_, rfl⟩
                rw [ec, nI_add, show (20 : Int32) = nI 20 by decide, nI_leI (by omega) (by omega)] at hle
                exact hle
              · rw [if_neg e]
                exact w11 u hu
            · exact ag_upd h.2.1 50 (2 * a + k) _ (fun k i hd => hd) (fun k i _ => vS_van hk _ k i) (fun k i hd => pM_two 50 _ _ _ k i hd)
      · refine thr h (n := 2) (w := 2) (b := 0) (by simp) (by decide) ?_ ?_
        · unfold fX9_load
          rw [dV_in ha, cx_r, dR_in hj, cx_r, dR_out hx, cx_l]
        · unfold fX10_load_
          simp only [isVan_in ha, cl_s, st_s, in_in hj, in_out hx, i10, if_false, if_true, refused_n M i20, cl2_s]
    · refine thr h (n := 2) (w := 2) (b := 0) (by simp) (by decide) ?_ ?_
      · unfold fX9_load
        rw [dV_in ha, cx_r, dR_out hj, cx_l]
      · unfold fX10_load_
        simp only [isVan_in ha, cl_s, st_s, in_out hj, i10, if_false, if_true, refused_n M i20, cl2_s]
  · refine thr h (n := 1) (w := 1) (b := 0) (by simp) (by decide) ?_ ?_
    · unfold fX9_load
      rw [e1, cx_l]
    · unfold fX10_load_
      by_cases hj : inR j 0 1
      · by_cases hx : inR x 1 20
        · simp only [e2, cl_s, st_s, in_in hj, in_in hx, i10, if_false, if_true, refused_n M i10, cl2_s]
        · simp only [e2, cl_s, st_s, in_in hj, in_out hx, i10, if_false, if_true, refused_n M i10, cl2_s]
      · simp only [e2, cl_s, st_s, in_out hj, i10, if_false, if_true, refused_n M i10, cl2_s]
end PV
