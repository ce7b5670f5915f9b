/-! shoot -/
section PSH2
variable {S S1 S2 Sb : zSt} {M M1 Mb X : zMs} {t g n bi N : Nat} {v7 i1 i2 i3 i4 : Int32}
theorem sh_BU (h : Tie S M) (ht : t < nT M) : BU S M t (nB M t) := by
  have hT6 := nT6 h.1
  have hS6 := nS60 h.1
  have hB8 := nB8 h.1 (t := t) (by omega)
  refine ⟨hB8, by omega, nB_e h.1 (by omega), h.2.2.1.2.2.2.2.1 t ht, fun b hb => ?_⟩
  obtain ⟨e1, e2⟩ := dm8 (t := t) (b := b) (by omega)
  have hd : (8 * t + b) / 8 < nT M ∧ (8 * t + b) % 8 < nB M ((8 * t + b) / 8) := by rw [e1, e2]; exact ⟨ht, hb⟩
  have q : ∀ (k r : Nat), vS S r (8 * t + b) = zI S (2, (8 * t + b) / 8, (8 * t + b) % 8) k → dom M r (8 * t + b) → zI S (2, t, b) k = M r (8 * t + b) := by
    intro k r e d
    rw [← ag h r _ d, e, e1, e2]
  obtain ⟨w1, w2, w3, w4, w5, w6⟩ := (h.1.2.2.2.2.2.1 t b (by omega) (by omega)).1 hb
  refine ⟨q 0 9 rfl hd, q 1 10 rfl hd, q 2 11 rfl hd, q 3 12 rfl hd, q 4 13 rfl hd, q 5 15 rfl hd, q 6 16 rfl hd, w1, w2, w3, w4, w5, ?_⟩
  rcases w6 with w | ⟨k, k1, k2⟩
  · exact Or.inl w
  · exact Or.inr ⟨k, by omega, k2⟩
theorem sh_BU2 (h : BU S M t n) (hb : eqX S Sb (fun c => c = (1, 0, 0))) (hM : ∀ k, k < 39 → Mb k = M k) : BU Sb Mb t n := by
  obtain ⟨u1, u2, u3, u4, u5⟩ := h
  refine ⟨u1, u2, by rw [hM 8 (by omega)]; exact u3, eqX_ls hb (kne (show (0 : Nat) ≠ 1 by decide)) (fun _ => kne (show (23 : Nat) ≠ 1 by decide)) u4, fun b hb2 => ?_⟩
  rw [(hb (2, t, b) (kne (show (2 : Nat) ≠ 1 by decide))).1, hM 9 (by omega), hM 10 (by omega), hM 11 (by omega), hM 12 (by omega), hM 13 (by omega), hM 15 (by omega), hM 16 (by omega)]
  exact u5 b hb2
theorem sh_PT (h : Tie S M) (hg : g < nG M) (hb : eqX S Sb (fun c => c = (1, 0, 0))) (hM : ∀ k, k < 39 → X k = M k) : PT Sb 0 g (ldM X g 3) g (nD M g) := by
  obtain ⟨l1, l2, l3, l4⟩ := ldM_a X g 3
  have hD := nD3 h.1 hg
  obtain ⟨-, -, -, g4, -⟩ := gm h.1 hg
  have z6 : zI Sb (6, 0, g) = zI S (6, 0, g) := (hb _ (kne (show (6 : Nat) ≠ 1 by decide))).1
  have z14 : zI Sb (14, 0, g) = zI S (14, 0, g) := (hb _ (kne (show (14 : Nat) ≠ 1 by decide))).1
  have z15 : zI Sb (15, 0, g) = zI S (15, 0, g) := (hb _ (kne (show (15 : Nat) ≠ 1 by decide))).1
  refine ⟨l1, by rw [l3, hM 34 (by omega)]; exact nD_e h.1 hg, hD, ?_, ?_, fun k hk => ?_⟩
  · rw [z6]; exact (ag h 34 g hg).trans (nD_e h.1 hg)
  · rw [z6, l2, hM 27 (by omega)]; exact ag h 27 g hg
  · obtain ⟨j, hj, j1, j2⟩ := g4 k hk
    obtain ⟨q1, q2⟩ := l4 k (by omega)
    obtain ⟨e1, e2⟩ := dm3 (t := g) (b := k) (by omega)
    have hd : (3 * g + k) / 3 < nG M ∧ (3 * g + k) % 3 < nD M ((3 * g + k) / 3) := by rw [e1, e2]; exact ⟨hg, hk⟩
    have a35 : zI S (14, 0, g) k = M 35 (3 * g + k) := by
      rw [← ag h 35 (3 * g + k) hd]
      show _ = zI S (14, 0, (3 * g + k) / 3) ((3 * g + k) % 3)
      rw [e1, e2]
    have a36 : zI S (15, 0, g) k = M 36 (3 * g + k) := by
      rw [← ag h 36 (3 * g + k) hd]
      show _ = zI S (15, 0, (3 * g + k) / 3) ((3 * g + k) % 3)
      rw [e1, e2]
    refine ⟨j, hj, ?_, ?_, ?_, ?_⟩
    · rw [q1, hM 35 (by omega)]; exact j1
    · rw [z14, a35]; exact j1
    · rw [ldM_o X g (by omega) 3, hM 29 (by omega)]; exact j2
    · rw [z15, a36, q2, hM 36 (by omega)]
theorem sh_RU (h : Tie S M) (hg : g < nG M) (hb : eqX S Sb (fun c => c = (1, 0, 0))) (hM : ∀ k, k < 39 → Mb k = M k) : RU Sb Mb g := by
  obtain ⟨r1, r2⟩ := RU_tie h hg
  have z12 : zI Sb (12, 1, g) = zI S (12, 1, g) := (hb _ (kne (show (12 : Nat) ≠ 1 by decide))).1
  have q13 : zQ Sb (13, 1, g) = zQ S (13, 1, g) := (hb _ (kne (show (13 : Nat) ≠ 1 by decide))).2.2.1
  have z4 : ∀ n, zI Sb (4, n, 0) = zI S (4, n, 0) := fun n => (hb _ (kne (show (4 : Nat) ≠ 1 by decide))).1
  refine ⟨fun k hk => ?_, fun j hj => ?_⟩
  · rw [z12, hM 28 (by omega)]; exact r1 k hk
  · rw [q13, hM 29 (by omega), hM 30 (by omega), hM 31 (by omega), hM 32 (by omega), hM 33 (by omega)]
    rcases r2 j hj with q | ⟨n, B, E, L, T, P, q0, q1, q2, q3, q4, q5, q6, q7, q8, q9, q10, q11, q12, q13, q14, q15⟩
    · exact Or.inl q
    · refine Or.inr ⟨n, B, E, L, T, P, q0, q1, q2, q3, q4, q5, ?_⟩
      rw [z4]
      exact ⟨q6, q7, q8, q9, q10, q11, q12, q13, q14, q15⟩
theorem sh_35b (h : Tie S M) (hg : g < nG M) : zI S (3, g, 0) 5 = nI (3 - nL M g) := by
  have hL := nL3 h.1 hg
  have e : 3 - zI S (3, g, 0) 5 = nI (nL M g) := (ag h 26 g hg).trans (nL_e h.1 hg)
  have : zI S (3, g, 0) 5 = 3 - (3 - zI S (3, g, 0) 5) := by
    rw [Int32.sub_eq_add_neg, Int32.neg_sub, Int32.add_comm, Int32.sub_add_cancel]
  rw [this, e, c3I, pk_sub (by omega)]
theorem shMb (M : zMs) (t g bi : Nat) {k : Nat} (hk : k ≠ 39) (hk2 : k < 40 ∨ 44 < k) : ldM (soM M t (3 * g + bi) 8) g 3 k = M k := (ldM_o _ g hk2 3).trans (soM_o M t _ hk 8)
theorem sh_RH (h : Tie S M) (ht : t < nT M) (hg : g < nG M) (hL : nL M g = 3 - bi) (hbi : bi < 3) (hb : eqX S Sb (fun c => c = (1, 0, 0))) (hBL : BL Sb i2 0 i3 i4) (h3 : spd i3) (h4 : spd i4) : RH Sb (ldM (soM M t (3 * g + bi) 8) g 3) t g (nB M t) bi (ents M g) 0 Sb (ldM (soM M t (3 * g + bi) 8) g 3) i2 0 i3 i4 := by
  have hM : ∀ k, k < 39 → ldM (soM M t (3 * g + bi) 8) g 3 k = M k := fun k hk => shMb M t g bi (by omega) (by omega)
  have hX : ∀ k, k < 39 → soM M t (3 * g + bi) 8 k = M k := fun k hk => soM_o M t _ (by omega) 8
  obtain ⟨k1, k2⟩ := h.2.2.2 g hg
  have z3 : zI Sb (3, g, 0) = zI S (3, g, 0) := (hb _ (kne (show (3 : Nat) ≠ 1 by decide))).1
  have z16 : zL Sb (16, g, 0) = zL S (16, g, 0) := (hb _ (kne (show (16 : Nat) ≠ 1 by decide))).2.1
  have hp := sh_PT h hg hb hX
  have hu := sh_BU2 (sh_BU h ht) hb hM
  have hr := sh_RU h hg hb hM
  refine ⟨⟨⟨fun c _ _ _ _ _ _ => rfl, fun _ _ _ => rfl, fun _ _ => rfl, fun _ _ => rfl, fun _ => rfl, fun _ => rfl, fun _ => rfl⟩, ⟨fun _ _ _ _ _ _ _ => rfl, fun _ _ => rfl, fun _ _ => rfl⟩, hu, ⟨_, hp⟩, hr, ?_, ?_, ?_⟩, hBL, h3, h4, fun q hq => by omega⟩
  · have e0 : ents M g ++ rlE (ldM (soM M t (3 * g + bi) 8) g 3) (3 * g + bi) bi 0 = ents M g := List.append_nil _
    rw [e0]
    exact ⟨by rw [z3]; exact k1, fun k n hk => by rw [z16]; exact k2 k n hk⟩
  · rw [z3, sh_35b h hg, hL, show 3 - (3 - bi) = bi by omega]
  · have e0 : ents M g ++ rlE (ldM (soM M t (3 * g + bi) 8) g 3) (3 * g + bi) bi 0 = ents M g := List.append_nil _
    have hl := ents_2520 h.1 hg
    rw [e0]
    have e1 : (zI Sb (3, g, 0) 4).toNatClampNeg = (ents M g).length := by rw [z3, k1, nI_clamp (by omega)]
    unfold MPl
    rw [e1, List.drop_length]
    exact ⟨Nat.le_refl _, rfl, 0, Nat.zero_le _, by rw [nI_0, Int32.add_zero]⟩
theorem run9_eq (S : zSt) (t g : Nat) : fX9_runBall S t g = lp (bRun9 t g) 40000 ((1 : Int32), S) := by
  unfold fX9_runBall
  rw [st_s]
  rfl
theorem sh_run (h : Tie S M) (h00 : M 0 0 = 0) (ht : t < nT M) (hg : g < nG M) (h25 : M 25 g = nI t) (hL : nL M g = 3 - bi) (hbi : bi < 3) (hb : eqX S Sb (fun c => c = (1, 0, 0))) (hBL : BL Sb i2 0 i3 i4) (h3 : spd i3) (h4 : spd i4) :
    ∃ S1 M1 N, fX9_runBall Sb t g = some S1 ∧ fX10_roll (ldM (soM M t (3 * g + bi) 8) g 3) (nI t) (nI (3 * g + bi)) i2 i3 i4 = some (pM M1 37 (3 * g + bi) (nI N)) ∧ ShH S M t g (nB M t) bi Sb (ldM (soM M t (3 * g + bi) 8) g 3) S1 M1 N := by
  have hG4 := nG40 h.1
  have hT6 := nT6 h.1
  have hR := sh_RH h ht hg hL hbi hb hBL h3 h4
  have hlen := ents_len h.1 hg
  have a39 : ∀ u, ldM (soM M t (3 * g + bi) 8) g 3 39 u = if 8 * (3 * g + bi) ≤ u ∧ u < 8 * (3 * g + bi) + 8 then M 16 (8 * t + (u - 8 * (3 * g + bi))) + 1 else M 39 u := fun u => by
    rw [ldM_o _ g (by omega) 3]
    exact soM_a M t (3 * g + bi) 8 u
  have a16 := shMb M t g bi (k := 16) (by omega) (by omega)
  have a00 : ldM (soM M t (3 * g + bi) 8) g 3 0 0 = 0 := by rw [shMb M t g bi (k := 0) (by omega) (by omega)]; exact h00
  have aO : ∀ k, k ≠ 0 → k ≠ 39 → (k < 40 ∨ 44 < k) → ldM (soM M t (3 * g + bi) 8) g 3 k = M k := fun k _ k1 k2 => shMb M t g bi k1 k2
  generalize ldM (soM M t (3 * g + bi) 8) g 3 = Mb at *
  obtain ⟨S1, M1, N, x1, y1, sx1, sy1, e1, e2, n1, n2, hf⟩ := roll_lp (show g < 40 by omega) hbi (e0 := ents M g) (by rw [hL] at hlen; omega) (fun k hk => by
    rw [a39, if_pos (by omega), a16, show 8 * (3 * g + bi) + k - 8 * (3 * g + bi) = k by omega]) (fun k k1 k2 => by
    rw [a16]; exact ((h.1.2.2.2.2.2.1 t k (by omega) k2).2 k1).1) 300 0 40000 40000 Sb Mb i2 0 i3 i4 0 (by omega) (by omega) (by omega) hR (Or.inl ⟨rfl, ⟨by decide, by decide⟩⟩) (fun q => q.elim (fun q => absurd q (by decide)) (fun q => absurd q (by decide)))
  refine ⟨S1, M1, N, ?_, ?_, ⟨h, ht, hg, h25, hL, hbi, rfl⟩, hb, aO, a00, a39, hf.1, hf.2.2.2.2, n1, n2⟩
  · rw [run9_eq]
    rw [show nI (0 + 1) = (1 : Int32) by decide] at e1
    exact e1
  · rw [roll_eq]
    rw [nI_0] at e2
    exact e2
theorem shX_eq (h : Tie S M) (ht : t < nT M) (hg : g < nG M) (h7 : M 7 t = nI g) (hL : nL M g = 3 - bi) (hbi : bi < 3) (hr : fX10_roll (ldM (soM M t (3 * g + bi) 8) g 3) (nI t) (nI (3 * g + bi)) i2 i3 i4 = some (pM M1 37 (3 * g + bi) (nI N))) (h26 : M1 26 = M 26) (hv : v7 = if nI (2 - bi) = 0 then -1 else nI g) : shX (nI t) i2 i3 i4 M = some (M1 41 0 - M 27 g, mSh M1 t g bi N v7) := by
  have hG4 := nG40 h.1
  have hT6 := nT6 h.1
  have ct : (nI t).toNatClampNeg = t := nI_clamp (by omega)
  have cg : (nI g).toNatClampNeg = g := nI_clamp (by omega)
  have gt : ¬ (nI t < 0 ∨ 6 ≤ t) := fun q => q.elim (nI_pos (by omega)) (by omega)
  have gg : ¬ (nI g < 0 ∨ 40 ≤ g) := fun q => q.elim (nI_pos (by omega)) (by omega)
  have e26 : M 26 g = nI (3 - bi) := by rw [nL_e h.1 hg, hL]
  have e18 : (3 : Int32) * nI g + 3 - nI (3 - bi) = nI (3 * g + bi) := by
    rw [c3I, pk_mul, nI_add, pk_sub (by omega)]
    congr 1
    omega
  unfold shX
  rw [ct, gd_t gt, h7, st_s, cg, gd_t gg, e26, e18, st_s, st_s]
  refine lp_up (body := bSh10 (nI t) i2 i3 i4 (nI g) (nI (3 * g + bi))) (fun k => (nI k, soM M t (3 * g + bi) k)) 8 (by omega) ?_ (fun k hk => ?_) ?_
  · show _ = (nI 0, M)
    rw [nI_0]
  · have a16 : soM M t (3 * g + bi) k 16 = M 16 := soM_o M t _ (by omega) k
    unfold bSh10
    simp (disch := omega) only [Nat.add_sub_cancel, nI_0, c2I, c3I, c4I, c6I, c8I, c9I, c10I, c15I, c16I, c20I, c30I, c40I, c48I, c60I, c100I, c120I, c159I, c160I, c239I, c240I, c256I, c300I, c318I, c320I, c720I, c840I, c960I, c2520I, c36000I, c1048576I, nI_1, nI_add, pk_mul, nI_pred1, nI_pm1, pk_sub, pk_div, nI_clamp, nI_lz, nI_leI, nI_ltI, nI_eq, nI_z, nI_lez, nI_gez, nI_gtz, nI_m, nI_m2, nI_lem, nI_ltm, nleF, leT, ltT, ltF, eqT, eqF, false_or, or_false, not_false_eq_true, not_true_eq_false, gd_T, st_q, cl_q, cl2_q, cxr_q, cxl_q, i10, if_true, if_false, Bool.false_eq_true, a16]
    rfl
  · have k26 : keM (pM M1 37 (3 * g + bi) (nI N)) g 3 26 g - 1 = nI (2 - bi) := by
      rw [keM_o _ _ (by omega), pMn (by omega), h26, e26, nI_pred1 (by omega), show 3 - bi - 1 = 2 - bi by omega]
    have l41 : ldM (soM M t (3 * g + bi) 8) g 3 41 0 = M 27 g := by
      rw [(ldM_a _ g 3).2.1, soM_o M t _ (by omega) 8]
    have p41 : mSh M1 t g bi N v7 41 0 = M1 41 0 := by
      unfold mSh
      rw [pMn (by omega), pMn (by omega), keM_o _ _ (by omega), pMn (by omega)]
    have fin : ∀ y : Int32, y = v7 → (some (.inr (((pM (pM (keM (pM M1 37 (3 * g + bi) (nI N)) g 3) 26 g (nI (2 - bi))) 7 t y) 41 0) - M 27 g, pM (pM (keM (pM M1 37 (3 * g + bi) (nI N)) g 3) 26 g (nI (2 - bi))) 7 t y)) : Option ((Int32 × zMs) ⊕ (Int32 × zMs))) = some (.inr (M1 41 0 - M 27 g, mSh M1 t g bi N v7)) := by
      intro y hy
      rw [hy, ← p41]
      rfl
    generalize hMb : ldM (soM M t (3 * g + bi) 8) g 3 = Mb at *
    generalize hKe : keM (pM M1 37 (3 * g + bi) (nI N)) g 3 = Ke at *
    unfold bSh10
    dsimp only
    rw [if_pos (by decide), load_eq (by omega), hMb, cl_s, st_s, l41, hr, cl_s, keep_eq (by omega), hKe, cl_s, cg, gd_t gg, gd_t gg, k26, st_s, gd_t gg, st_s, pM_s]
    by_cases e : nI (2 - bi) = 0
    · rw [if_pos e] at hv ⊢
      rw [ct]
      dsimp only
      rw [gd_t gt, st_s]
      exact fin _ hv.symm
    · rw [if_neg e] at hv ⊢
      rw [ct]
      dsimp only
      rw [gd_t gt, st_s]
      exact fin _ hv.symm
theorem shoot10 (M : zMs) (i_1 i_2 i_3 i_4 : Int32) : fX10_shoot M i_1 i_2 i_3 i_4 = (cl (fX10_in M i_2 (0 : Int32) (159 : Int32)) fun r1 => st (fun (y4 : Int32) => shT M i_1 i_2 i_3 i_4 y4) fun j6 => st (fun (_ : Unit) => (j6 (0 : Int32) : Option (Int32 × zMs))) fun j45 => if r1 = 0 then j45 () else cl (fX10_in M i_3 (-30 : Int32) (30 : Int32)) fun r46 => if r46 = 0 then j45 () else cl (fX10_in M i_4 (-30 : Int32) (30 : Int32)) fun r49 => if r49 = 0 then j45 () else j6 (1 : Int32)) := rfl
def arSh (i2 i3 i4 : Int32) : Prop := inR i2 0 159 ∧ inR i3 (-30) 30 ∧ inR i4 (-30) 30
theorem sh10_in (h : arSh i2 i3 i4) : fX10_shoot M i1 i2 i3 i4 = shT M i1 i2 i3 i4 1 := by
  rw [shoot10, in_in h.1, cl_s, st_s, st_s, if_neg i10, in_in h.2.1, cl_s, if_neg i10, in_in h.2.2, cl_s, if_neg i10]
theorem sh10_out (h : ¬ arSh i2 i3 i4) : fX10_shoot M i1 i2 i3 i4 = shT M i1 i2 i3 i4 0 := by
  rw [shoot10]
  by_cases a : inR i2 0 159
  · rw [in_in a, cl_s, st_s, st_s, if_neg i10]
    by_cases b : inR i3 (-30) 30
    · rw [in_in b, cl_s, if_neg i10]
      by_cases c : inR i4 (-30) 30
      · exact absurd ⟨a, b, c⟩ h
      · rw [in_out c, cl_s, if_pos rfl]
    · rw [in_out b, cl_s, if_pos rfl]
  · rw [in_out a, cl_s, st_s, st_s, if_pos rfl]
theorem sh9_out (h : Tie S M) (ht : t < nT M) (ha : ¬ arSh i2 i3 i4) : fX9_shoot S (nI t) i2 i3 i4 = some (.inl (2, S)) := by
  unfold fX9_shoot
  rw [dT_in h ht, cx_r]
  by_cases a : inR i2 0 159
  · rw [dR_in a, cx_r]
    by_cases b : inR i3 (-30) 30
    · rw [dR_in b, cx_r]
      by_cases c : inR i4 (-30) 30
      · exact absurd ⟨a, b, c⟩ ha
      · rw [dR_out c, cx_l]
    · rw [dR_out b, cx_l]
  · rw [dR_out a, cx_l]
theorem spd_R {v : Int32} (h : inR v (-30) 30) : spd v := by
  obtain ⟨a, b⟩ := h
  exact ⟨Int32.le_iff_toInt_le.mp a, Int32.le_iff_toInt_le.mp b⟩
theorem sh_E (hz : zI S1 (3, g, 0) 5 = nI bi) (h8 : zI S1 (8, t, 0) 4 = nI g) (hbi : bi < 3) :
    ∃ S2 v7, (fX2_isOver (pI S1 (3, g, 0) 5 (nI (bi + 1))) g = some (if bi = 2 then 1 else 0)) ∧ S2 = (if bi = 2 then pI (pI S1 (3, g, 0) 5 (nI (bi + 1))) (8, t, 0) 4 (-1) else pI S1 (3, g, 0) 5 (nI (bi + 1))) ∧ v7 = (if nI (2 - bi) = 0 then -1 else nI g) ∧ ((bi = 2 ∧ v7 = -1) ∨ (bi < 2 ∧ v7 = nI g)) ∧ ShE S1 (pV S2 (1, 0, 0) false) t g bi v7 ∧ zI S2 (6, 0, g) = zI S1 (6, 0, g) := by
  have n38 : ((3, g, 0) : zId) ≠ (8, t, 0) := fun e => absurd (congrArg Prod.fst e) (by decide : ¬ (3 : Nat) = 8)
  have n36 : ((6, 0, g) : zId) ≠ (3, g, 0) := fun e => absurd (congrArg Prod.fst e) (by decide : ¬ (6 : Nat) = 3)
  have n86 : ((6, 0, g) : zId) ≠ (8, t, 0) := fun e => absurd (congrArg Prod.fst e) (by decide : ¬ (6 : Nat) = 8)
  have e3 : zI (pI S1 (3, g, 0) 5 (nI (bi + 1))) (3, g, 0) 5 = nI (bi + 1) := by rw [zI_at, if_pos ⟨rfl, rfl⟩]
  by_cases e : bi = 2
  · refine ⟨_, _, ?_, rfl, rfl, Or.inl ⟨e, ?_⟩, ?_, ?_⟩
    · unfold fX2_isOver
      rw [e3, if_neg (by rw [e]; decide), if_pos e]
    · rw [e, if_pos (by decide)]
    · rw [if_pos e, if_pos (by rw [e]; decide)]
      refine ⟨?_, fun c k h1 h2 => ?_, ?_, fun _ => rfl, fun _ => rfl, fun _ => rfl, fun c => ?_⟩
      · show zI (pI (pI S1 (3, g, 0) 5 (nI (bi + 1))) (8, t, 0) 4 (-1)) (8, t, 0) 4 = _
        rw [zI_at, if_pos ⟨rfl, rfl⟩]
      · show zI (pI (pI S1 (3, g, 0) 5 (nI (bi + 1))) (8, t, 0) 4 (-1)) c k = _
        rw [zI_at, if_neg h1, zI_at, if_neg h2]
      · show zI (pI (pI S1 (3, g, 0) 5 (nI (bi + 1))) (8, t, 0) 4 (-1)) (3, g, 0) 5 = _
        rw [zI_at, if_neg (fun q => n38 q.1), zI_at, if_pos ⟨rfl, rfl⟩]
      · rfl
    · rw [if_pos e, zI_pIn _ n86, zI_pIn _ n36]
  · refine ⟨_, _, ?_, rfl, rfl, Or.inr ⟨by omega, ?_⟩, ?_, ?_⟩
    · unfold fX2_isOver
      rw [e3, if_pos (by rw [c3I]; exact nI_lt (by omega) (by omega)), if_neg e]
    · rw [if_neg (nI_ne0 (by omega) (by omega))]
    · rw [if_neg e, if_neg (nI_ne0 (by omega) (by omega))]
      refine ⟨?_, fun c k h1 h2 => ?_, ?_, fun _ => rfl, fun _ => rfl, fun _ => rfl, fun c => ?_⟩
      · show zI (pI S1 (3, g, 0) 5 (nI (bi + 1))) (8, t, 0) 4 = _
        rw [zI_at, if_neg (fun q => n38 q.1.symm)]
        exact h8
      · show zI (pI S1 (3, g, 0) 5 (nI (bi + 1))) c k = _
        rw [zI_at, if_neg h2]
      · show zI (pI S1 (3, g, 0) 5 (nI (bi + 1))) (3, g, 0) 5 = _
        rw [zI_at, if_pos ⟨rfl, rfl⟩]
      · rfl
    · rw [if_neg e, zI_pIn _ n36]
theorem ok_shoot (S : zSt) (M : zMs) (i1 i2 i3 i4 : Int32) (h : Tie S M) : zOk Tie [1, 2, 3] (fun y : (Int32 × zSt) => (y.1).toInt64) (fun y : (Int32 × zSt) => pV y.2 (1, 0, 0) false) (fX9_shoot S i1 i2 i3 i4) (fun b : Int32 => b.toInt64) (fX10_shoot M i1 i2 i3 i4) := by
  have h6 := nT6 h.1
  have hG := nG40 h.1
  rcases ixc i1 (nT M) (by omega) with hi | ⟨t, ht, rfl⟩
  · refine thr h (n := 1) (w := 1) (b := 0) (by simp) (by decide) ?_ ?_
    · unfold fX9_shoot; rw [dT_out h hi, cx_l]
    · have key : ∀ y : Int32, shT M i1 i2 i3 i4 y = some (0, pM M 0 0 1) := by
        intro y
        unfold shT
        rw [st_s, isTable_out h.1 hi, cl_s, st_s, if_pos rfl]
        dsimp only
        rw [refused_n M i10, cl2_s, if_neg i10]
      by_cases a : arSh i2 i3 i4
      · rw [sh10_in a, key]
      · rw [sh10_out a, key]
  · by_cases a : arSh i2 i3 i4
    · rw [sh10_in a]
      obtain ⟨a2, a3, a4⟩ := a
      have z7 : zI S (8, t, 0) 4 = M 7 t := ag h 7 t ht
      rcases (h.1.2.2.2.2.1 t ht).2 with e7 | ⟨g, hg, e7, e25, eL0⟩
      · refine thr h (n := 3) (w := 3) (b := 0) (by simp) (by decide) ?_ ?_
        · unfold fX9_shoot
          rw [dT_in h ht, cx_r, dR_in a2, cx_r, dR_in a3, cx_r, dR_in a4, cx_r, st_s, z7, e7, if_pos (by decide)]
        · unfold shT
          rw [st_s, isTable_in h.1 ht, cl_s, st_s, if_neg i10, if_neg i10, isFree_eq M (show t < 6 by omega), e7, if_pos rfl, cl_s, if_neg i10]
          dsimp only
          rw [refused_n M i30, cl2_s, if_neg i10]
      · obtain ⟨bi, hbi, hL⟩ : ∃ bi, bi < 3 ∧ nL M g = 3 - bi := ⟨3 - nL M g, by omega, by have := nL3 h.1 hg; omega⟩
        have e7n : ¬ M 7 t = -1 := by rw [e7]; exact of_eq_false (nI_m (by omega))
        have h0 := tie_ref h 0
        have hb := eqX_nw S (1, 0, 0) (fun k => ([i2, (0 : Int32), i3, i4] : List Int32).getD k 0) (fun _ => 0) (fun _ => none) (fun _ => 0)
        have hBL : BL (nw S (1, 0, 0) (fun k => ([i2, (0 : Int32), i3, i4] : List Int32).getD k 0) (fun _ => 0) (fun _ => none) (fun _ => 0)) i2 0 i3 i4 := by
          unfold BL
          rw [zI_nw, if_pos rfl]
          exact ⟨rfl, rfl, rfl, rfl⟩
        have hSV : ∀ c, zV (nw S (1, 0, 0) (fun k => ([i2, (0 : Int32), i3, i4] : List Int32).getD k 0) (fun _ => 0) (fun _ => none) (fun _ => 0)) c = if c = (1, 0, 0) then true else zV S c := fun c => zV_nw _ _ _ _ _ _ _
        have hin : fX0_init S i2 i3 i4 = some (nw S (1, 0, 0) (fun k => ([i2, (0 : Int32), i3, i4] : List Int32).getD k 0) (fun _ => 0) (fun _ => none) (fun _ => 0)) := by
          unfold fX0_init
          rw [gd_t h.2.2.1.2.1, st_s]
        have hlsG : (nI g : Int32) < nI (nG M) := nI_lt hg (by omega)
        have q7 : pM M 0 0 0 7 t = nI g := by rw [pMn (by decide)]; exact e7
        have q25 : pM M 0 0 0 25 g = nI t := by rw [pMn (by decide)]; exact e25
        have q27 : zI S (6, 0, g) 3 = pM M 0 0 0 27 g := by rw [pMn (by decide)]; exact ag h 27 g hg
        have q00 : pM M 0 0 0 0 0 = 0 := pM_s _ _ _
        have hsT : shT M (nI t) i2 i3 i4 1 = shX (nI t) i2 i3 i4 (pM M 0 0 0) := by
          unfold shT
          rw [st_s, isTable_in h.1 ht, cl_s, st_s, if_neg i10, if_neg i10, isFree_eq M (show t < 6 by omega), if_neg e7n, cl_s, if_pos rfl]
          dsimp only
          rw [refused_0, cl2_s, if_pos rfl]
        rw [hsT]
        have ht0 : t < nT (pM M 0 0 0) := ht
        have hg0 : g < nG (pM M 0 0 0) := hg
        have hL0 : nL (pM M 0 0 0) g = 3 - bi := hL
        have hl1 := ls1 h
        have hz7 : zI S (8, t, 0) 4 = nI g := z7.trans e7
        have hd : fX9_demandTable S (nI t) = some (.inr t) := dT_in h ht
        generalize pM M 0 0 0 = M0 at *
        generalize nw S (1, 0, 0) (fun k => ([i2, (0 : Int32), i3, i4] : List Int32).getD k 0) (fun _ => 0) (fun _ => none) (fun _ => 0) = Sb at *
        obtain ⟨S1, M1, N, r1, r2, r3⟩ := sh_run h0 q00 ht0 hg0 q25 hL0 hbi hb hBL (spd_R a3) (spd_R a4)
        obtain ⟨-, -, -, -, -, m5, -⟩ := id r3
        obtain ⟨s1, s2, -, ⟨d, p40, p42, p3, ps2, ps3, ps⟩, -, -, z35, -⟩ := m5
        have h8 : zI S1 (8, t, 0) 4 = nI g := by
          rw [s1.1 (8, t, 0) (show (8 : Nat) ≠ 1 by decide) (fun q => absurd q.1 (by decide : ¬ (8 : Nat) = 2)) (fun q => absurd (congrArg Prod.fst q) (by decide : ¬ (8 : Nat) = 6)) (fun q => absurd (congrArg Prod.fst q) (by decide : ¬ (8 : Nat) = 14)) (fun q => absurd (congrArg Prod.fst q) (by decide : ¬ (8 : Nat) = 15)) (fun q => absurd (congrArg Prod.fst q) (by decide : ¬ (8 : Nat) = 3)), (hb _ (kne (show (8 : Nat) ≠ 1 by decide))).1]
          exact hz7
        obtain ⟨S2, v7, o1, o2, o3, o4, o5, o6⟩ := sh_E z35 h8 hbi
        have h26 : M1 26 = M0 26 := by
          rw [s2.1 26 (by decide) (by decide) (by decide) (by decide) (by decide) (by decide)]
          exact shMb M0 t g bi (by decide) (by decide)
        have x := shX_eq h0 ht0 hg0 q7 hL0 hbi r2 h26 o3
        refine Or.inl ⟨(M1 41 0 - M0 27 g, S2), M1 41 0 - M0 27 g, mSh M1 t g bi N v7, ?_, x, sh_00 r3, rfl, sh_tie r3 o5 o4 hSV⟩
        unfold fX9_shoot
        rw [hd, cx_r, dR_in a2, cx_r, dR_in a3, cx_r, dR_in a4, cx_r, st_s, hz7, if_neg (nI_pos (by omega)), zLs_size hl1, cl_s, if_pos hlsG, zLs_get hl1 (by omega) hg, cl_s, st_s, hin, cl_s, r1, cl_s, z35, nI_1, st_s, o1, cl_s, st_s]
        by_cases e : bi = 2
        · rw [if_pos e] at o2 ⊢
          rw [if_neg i10, st_s, ← o2]
          dsimp only
          rw [o6, ps3, q27, fin_s]
        · rw [if_neg e] at o2 ⊢
          rw [if_pos rfl, ← o2]
          dsimp only
          rw [o6, ps3, q27, fin_s]
    · rw [sh10_out a]
      refine thr h (n := 2) (w := 2) (b := 0) (by simp) (by decide) (sh9_out h ht a) ?_
      unfold shT
      rw [st_s, isTable_in h.1 ht, cl_s, st_s, if_neg i10, if_pos rfl]
      dsimp only
      rw [refused_n M i20, cl2_s, if_neg i10]
end PSH2
