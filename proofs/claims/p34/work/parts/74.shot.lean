/-! shoot keeps what holds -/
section PSI
variable {S S1 S2 Sb : zSt} {M M1 Mb X : zMs} {t g n bi N : Nat} {v7 : Int32}
theorem nrm_c {d : Nat} {f f1 : Nat → Int32} (h : ∀ i, i < d → f i = f1 i) : nrm d f = nrm d f1 := by
  funext i
  unfold nrm
  by_cases e : i < d
  · rw [if_pos e, if_pos e, h i e]
  · rw [if_neg e, if_neg e]
theorem sh_ents (h : ShH S M t g n bi Sb Mb S1 M1 N) : ents (mSh M1 t g bi N v7) g = ents M g ++ rlE M1 (3 * g + bi) bi N ∧ ∀ u, u < nG M → u ≠ g → ents (mSh M1 t g bi N v7) u = ents M u := by
  obtain ⟨eT, eB, eG, eS, eD, eL⟩ := sh_n (v7 := v7) h
  have hh := h
  obtain ⟨⟨hT, ht, hg, h25, hL, hbi, hn⟩, h1, h2, h3, h4, h5, h6, N1, N2⟩ := h
  refine ⟨?_, fun u hu e => ?_⟩
  · unfold ents
    rw [eL, if_pos rfl, hL, show 3 - (2 - bi) = bi + 1 by omega, show 3 - (3 - bi) = bi by omega, List.range_succ, List.flatMap_append, List.flatMap_singleton]
    congr 1
    · refine fm_c (fun b hb => ?_)
      obtain ⟨x1, x2, x3⟩ := sh_b (v7 := v7) hh (ball := 3 * g + b) (by omega)
      exact entB_p (stp_ok hT.1 hg (by omega)).2.2.1 x3 x1 x2
    · unfold entB rlE
      rw [sh_37 hh, if_pos rfl, nI_clamp (by omega)]
      exact fm_c (fun q hq => entS_c (by rw [sh_38]) (by rw [sh_39]))
  · unfold ents
    rw [eL, if_neg e]
    refine fm_c (fun b hb => ?_)
    obtain ⟨x1, x2, x3⟩ := sh_b (v7 := v7) hh (ball := 3 * u + b) (by omega)
    exact entB_p (stp_ok hT.1 hu hb).2.2.1 x3 x1 x2
theorem sh_plG (h : ShH S M t g n bi Sb Mb S1 M1 N) : plG (mSh M1 t g bi N v7) g = plM M1 ∧ ∀ u, u < nG M → u ≠ g → plG (mSh M1 t g bi N v7) u = plG M u := by
  obtain ⟨eT, eB, eG, eS, eD, eL⟩ := sh_n (v7 := v7) h
  have hh := h
  obtain ⟨⟨hT, ht, hg, h25, hL, hbi, hn⟩, h1, h2, h3, h4, h5, h6, N1, N2⟩ := h
  obtain ⟨-, -, -, ⟨d, m4⟩, -⟩ := h5
  obtain ⟨p40, p42, p3, -⟩ := m4
  refine ⟨?_, fun u hu e => ?_⟩
  · have ed : nD (mSh M1 t g bi N v7) g = d := by
      unfold nD
      rw [(sh_27 hh g).2, if_pos rfl, p42]
      exact nI_clamp (by omega)
    have e1 : nrm d (fun i => mSh M1 t g bi N v7 35 (3 * g + i)) = nrm d (M1 43) := nrm_c (fun i hi => by rw [(sh_35 hh _).1, if_pos (by omega), show 3 * g + i - 3 * g = i by omega])
    have e2 : nrm d (fun i => mSh M1 t g bi N v7 36 (3 * g + i)) = nrm d (M1 44) := nrm_c (fun i hi => by rw [(sh_35 hh _).2, if_pos (by omega), show 3 * g + i - 3 * g = i by omega])
    rw [plM_e p42 p3]
    unfold plG
    rw [ed, (sh_27 hh g).1, if_pos rfl, e1, e2]
  · have hD := nD3 hT.1 hu
    have e1 : nrm (nD M u) (fun i => mSh M1 t g bi N v7 35 (3 * u + i)) = nrm (nD M u) (fun i => M 35 (3 * u + i)) := nrm_c (fun i hi => by rw [(sh_35 hh _).1, if_neg (by omega)])
    have e2 : nrm (nD M u) (fun i => mSh M1 t g bi N v7 36 (3 * u + i)) = nrm (nD M u) (fun i => M 36 (3 * u + i)) := nrm_c (fun i hi => by rw [(sh_35 hh _).2, if_neg (by omega)])
    unfold plG
    rw [eD u e, (sh_27 hh u).1, if_neg e, e1, e2]
theorem ld_play (hW : WM M) (hg : g < nG M) (hX : ∀ k, k < 39 → X k = M k) : plM (ldM X g 3) = plG M g := by
  obtain ⟨l1, l2, l3, l4⟩ := ldM_a X g 3
  have hD := nD3 hW hg
  have e1 : nrm (nD M g) (ldM X g 3 43) = nrm (nD M g) (fun i => M 35 (3 * g + i)) := nrm_c (fun i hi => by rw [(l4 i (by omega)).1, hX 35 (by omega)])
  have e2 : nrm (nD M g) (ldM X g 3 44) = nrm (nD M g) (fun i => M 36 (3 * g + i)) := nrm_c (fun i hi => by rw [(l4 i (by omega)).2, hX 36 (by omega)])
  rw [plM_e (d := nD M g) (by rw [l3, hX 34 (by omega)]; exact nD_e hW hg) hD]
  unfold plG
  rw [l2, hX 27 (by omega), e1, e2]
theorem sh_J1 (h : ShH S M t g n bi Sb (ldM (soM M t (3 * g + bi) 8) g 3) S1 M1 N) (hv : (bi = 2 ∧ v7 = -1) ∨ (bi < 2 ∧ v7 = nI g)) (hJ : J1 M) : J1 (mSh M1 t g bi N v7) ∧ ∃ m, m ≤ 50000000 ∧ M1 41 0 = M 27 g + nI m := by
  obtain ⟨eT, eB, eG, eS, eD, eL⟩ := sh_n (v7 := v7) h
  have hh := h
  obtain ⟨⟨hT, ht, hg, h25, hL, hbi, hn⟩, h1, h2, h3, h4, h5, h6, N1, N2⟩ := h
  obtain ⟨-, m2, -, -, -, -, -, m8⟩ := h5
  have hl2 := ents_len hT.1 hg
  have z3 : zI Sb (3, g, 0) = zI S (3, g, 0) := (h1 _ (kne (show (3 : Nat) ≠ 1 by decide))).1
  have hl : (zI Sb (3, g, 0) 4).toNatClampNeg = (ents M g).length := by rw [z3, log_len hT hg, nI_clamp (by omega)]
  obtain ⟨-, q2, m, q3, q4⟩ := m8
  rw [hl, List.drop_left] at q2
  have hld := ld_play hT.1 hg (X := soM M t (3 * g + bi) 8) (fun k hk => soM_o M t _ (by omega) 8)
  have e41 : ldM (soM M t (3 * g + bi) 8) g 3 41 0 = M 27 g := by rw [(ldM_a _ g 3).2.1, soM_o M t _ (by omega) 8]
  rw [hld] at q2
  rw [e41] at q4
  generalize ldM (soM M t (3 * g + bi) 8) g 3 = Mb at *
  refine ⟨fun u hu => ?_, m, ?_, q4⟩
  · rw [eG] at hu
    have rE : ∀ u, rulE M (mSh M1 t g bi N v7) u := fun u => rulE_r (fun k a b => sh_o hh k (by omega)) u
    by_cases e : u = g
    · have hm : ∀ x, x ∈ rlE M1 (3 * g + bi) bi N → x % 16 < 8 := fun x hx => by
        have hw := sh_wm hh hv
        have hx2 : x ∈ ents (mSh M1 t g bi N v7) g := by rw [(sh_ents hh).1]; exact List.mem_append_right _ hx
        exact (ents_mem hw (by rw [eG]; exact hg) hx2).2.1
      rw [e, (sh_plG hh).1, (sh_ents hh).1, plS_ap, plS_e hT.1 hg (rE g) pl0, ← hJ g hg, q2]
      exact (plS_g ⟨fun k hk => by rw [sh_o hh 28 (by omega), h2 28 (by omega) (by omega) (by omega)], fun r a b j hj => by rw [sh_o hh r (by omega), h2 r (by omega) (by omega) (by omega)]⟩ _ _ hm).symm
    · rw [(sh_plG hh).2 u hu e, (sh_ents hh).2 u hu e, plS_e hT.1 hu (rE u), ← hJ u hu]
  · have h5l := rlE_len M1 (3 * g + bi) bi N
    rw [List.length_append] at q3
    omega
theorem sh_J2 (h : ShH S M t g n bi Sb Mb S1 M1 N) (hJ : J2 M) : J2 (mSh M1 t g bi N v7) := by
  obtain ⟨eT, eB, eG, eS, eD, eL⟩ := sh_n (v7 := v7) h
  have hh := h
  obtain ⟨⟨hT, ht, hg, h25, hL, hbi, hn⟩, h1, h2, h3, h4, h5, h6, N1, N2⟩ := h
  obtain ⟨-, m2, -, -, -, -, -, -⟩ := h5
  have h6T := nT6 hT.1
  have hS := nS60 hT.1
  intro u b k hu hb hk
  rw [eG] at hu
  rw [eL] at hb
  rw [eS]
  by_cases e : 3 * u + b = 3 * g + bi
  · rw [e, sh_39, m2.1 39 (by omega) (by omega) (by omega) (by omega) (by omega) (by omega), h4, if_pos (by omega), show 8 * t + (8 * (3 * g + bi) + k - 8 * (3 * g + bi)) = 8 * t + k by omega]
    by_cases hkn : k < nB M t
    · obtain ⟨-, -, -, -, -, r6⟩ := (hT.1.2.2.2.2.2.1 t k (by omega) hk).1 hkn
      rcases r6 with r6 | ⟨q, q1, r6⟩
      · rw [r6]; exact ⟨0, by omega, by omega, by decide⟩
      · rw [r6, nI_1]; exact ⟨q + 1, by omega, by omega, rfl⟩
    · rw [((hT.1.2.2.2.2.2.1 t k (by omega) hk).2 (by omega)).1]; exact ⟨0, by omega, by omega, by decide⟩
  · rw [(sh_b (v7 := v7) hh e).2.1 k hk]
    refine hJ u b k hu ?_ hk
    by_cases q : u = g
    · rw [if_pos q] at hb
      rw [q, hL]
      omega
    · rw [if_neg q] at hb
      exact hb
theorem J_ref (x : Int32) (hW : WM M) (h1 : J1 M) (h2 : J2 M) (h3 : J3 M) : J1 (pM M 0 0 x) ∧ J2 (pM M 0 0 x) ∧ J3 (pM M 0 0 x) :=
  ⟨J1_fr hW (fun k a b => pMn (by omega) _ _) h1, J2_fr (fun k a b => pMn (by omega) _ _) (Nat.le_refl _) h2, J3_fr rfl (pMn (by omega) _ _) (pMn (by omega) _ _) (Nat.le_refl _) h3⟩
/-- a ball is shot -/
theorem sht (h : INV M) {a2 a3 a4 : Int32} (ht : t < nT M) (ha : arSh a2 a3 a4) (hg : g < nG M) (e7 : M 7 t = nI g) (e25 : M 25 g = nI t) (eL0 : 0 < nL M g) : J1 (N_shoot M (nI t) a2 a3 a4) ∧ J2 (N_shoot M (nI t) a2 a3 a4) ∧ J3 (N_shoot M (nI t) a2 a3 a4) ∧ ∃ m, m ≤ 50000000 ∧ A_shoot M (nI t) a2 a3 a4 = nI m ∧ N_shoot M (nI t) a2 a3 a4 27 g = M 27 g + nI m ∧
    (∀ u, N_shoot M (nI t) a2 a3 a4 26 u = if u = g then nI (nL M g - 1) else M 26 u) ∧ (∀ u, N_shoot M (nI t) a2 a3 a4 7 u = if u = t then (if nL M g = 1 then -1 else nI g) else M 7 u) ∧ (∀ k, k ≠ 0 ∧ k ≠ 7 ∧ k ≠ 15 ∧ k ≠ 26 ∧ k ≠ 27 ∧ (k < 34 ∨ 44 < k) → N_shoot M (nI t) a2 a3 a4 k = M k) := by
  obtain ⟨⟨S, hT⟩, j1, j2, j3⟩ := h
  obtain ⟨bi, N, Sb, S1, M1, v7, hbi, hL, -, hS, hv, e, e0⟩ := sp_shoot hT ht ha hg e7 e25 eL0
  obtain ⟨eA, eN⟩ := an_e (nums := [1, 2, 3]) (M := M) e e0
  obtain ⟨k1, k2, k3⟩ := J_ref 0 hT.1 j1 j2 j3
  obtain ⟨eT, eB, eG, eS, eD, eL⟩ := sh_n (v7 := v7) hS
  obtain ⟨i1, m, hm, i2⟩ := sh_J1 hS hv k1
  have o := fun k hk => sh_o (v7 := v7) hS k hk
  have q27 : pM M 0 0 0 27 g = M 27 g := by rw [pMn (by omega)]
  rw [q27] at i2
  have eN2 : N_shoot M (nI t) a2 a3 a4 = mSh M1 t g bi N v7 := eN
  have eA2 : A_shoot M (nI t) a2 a3 a4 = M1 41 0 - M 27 g := eA
  rw [eN2, eA2]
  refine ⟨i1, sh_J2 hS k2, J3_fr (by rw [eT]) (o 3 (by omega)) (o 4 (by omega)) (by rw [eG]; exact Nat.le_refl _) k3, m, hm, ?_, ?_, fun u => ?_, fun u => ?_, fun k hk => ?_⟩
  · rw [i2, Int32.add_comm, Int32.add_sub_cancel]
  · rw [(sh_27 hS g).1, if_pos rfl, i2]
  · rw [sh_26 hS, hL, pMn (by omega)]
    by_cases q : u = g
    · rw [if_pos q, if_pos q, show 3 - bi - 1 = 2 - bi by omega]
    · rw [if_neg q, if_neg q]
  · rw [sh_7 hS, hL, pMn (by omega)]
    by_cases q : u = t
    · rw [if_pos q, if_pos q]
      rcases hv with ⟨b2, ev⟩ | ⟨b2, ev⟩
      · rw [if_pos (by omega), ev]
      · rw [if_neg (by omega), ev]
    · rw [if_neg q, if_neg q]
  · rw [o k hk, pMn (by omega)]
theorem cs_shoot (h : WM M) (i a2 a3 a4 : Int32) : N_shoot M i a2 a3 a4 = M ∨ ∃ t g, t < nT M ∧ i = nI t ∧ arSh a2 a3 a4 ∧ g < nG M ∧ M 7 t = nI g ∧ M 25 g = nI t ∧ 0 < nL M g := by
  rcases tab_3 h i with hi | ⟨t, ht, rfl⟩
  · exact Or.inl (rf_shoot1 h hi).2
  · by_cases ha : arSh a2 a3 a4
    · rcases (h.2.2.2.2.1 t ht).2 with e7 | ⟨g, hg, e7, e25, eL⟩
      · exact Or.inl (rf_shoot3 h ht ha e7).2
      · exact Or.inr ⟨t, g, ht, rfl, ha, hg, e7, e25, eL⟩
    · exact Or.inl (rf_shoot2 h ht ha).2
theorem inv_shoot (h : INV M) (i a2 a3 a4 : Int32) : INV (N_shoot M i a2 a3 a4) := by
  have hI := h
  obtain ⟨⟨S, hT⟩, j1, j2, j3⟩ := h
  have hz : ∃ S', Tie S' (N_shoot M i a2 a3 a4) := tie_nx hT (ok_shoot S M i a2 a3 a4 hT)
  refine ⟨hz, ?_⟩
  rcases cs_shoot hT.1 i a2 a3 a4 with e | ⟨t, g, ht, rfl, ha, hg, e7, e25, eL⟩
  · rw [e]; exact ⟨j1, j2, j3⟩
  · obtain ⟨k1, k2, k3, -⟩ := sht hI ht ha hg e7 e25 eL
    exact ⟨k1, k2, k3⟩
end PSI
