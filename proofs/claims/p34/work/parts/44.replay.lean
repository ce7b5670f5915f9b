/-! scoreByLog, valid -/
def bX9_replay (a_1 : Nat) (i_2 : Int32) : (Int32 × zSt) → Option ((Int32 × zSt) ⊕ (Int32 × zSt)) := fun (q6 : (Int32 × zSt)) =>
if (zI q6.2 (3, a_1, 0) 4) ≤ q6.1 then
some (.inr (((zI q6.2 (6, 1, 0) 3), q6.2)))
else
cl (fX2_entryOf q6.2 a_1 q6.1) fun r13 =>
st r13 fun x15 =>
st (fun (S16 : zSt) => (st (q6.1 + (1 : Int32)) fun x18 =>
some (.inl (x18, S16)) : Option ((Int32 × zSt) ⊕ (Int32 × zSt)))) fun j17 =>
st (fun (u_ : Unit) => (cl (fX2_switchIn q6.2 x15) fun r22 =>
cl (fX5_takeSwitch q6.2 1 0 1 a_1 r22) fun S26 =>
j17 S26 : Option ((Int32 × zSt) ⊕ (Int32 × zSt)))) fun j19 =>
if i_2 = 0 then
j19 ()
else
cl (fX2_stickingIn q6.2 x15) fun r27 =>
cl (fX9_isMended q6.2 r27) fun r29 =>
if r29 = 0 then
j19 ()
else
j17 q6.2
def bX10_replay (i_1 : Int32) (i_2 : Int32) : (Int32 × zMs) → Option ((Int32 × zMs) ⊕ (Int32 × zMs)) := fun (q11 : (Int32 × zMs)) =>
if q11.1 = (-1 : Int32) then
some (.inr (((q11.2 41 0), q11.2)))
else
st (q11.1 / (1048576 : Int32)) fun x17 =>
st (fun (S18 : zMs) => (cl2 (fX10_next S18 (0 : Int32) i_1) fun r20 M22 =>
st r20 fun x23 =>
some (.inl (x23, M22)) : Option ((Int32 × zMs) ⊕ (Int32 × zMs)))) fun j19 =>
st (fun (u_ : Unit) => (cl (fX10_close q11.2 (q11.1 - q11.1 / (16 : Int32) * (16 : Int32))) fun M27 =>
j19 M27 : Option ((Int32 × zMs) ⊕ (Int32 × zMs)))) fun j24 =>
if i_2 = 0 then
j24 ()
else
if x17 = 0 then
j24 ()
else
gd (¬ ((x17 - (1 : Int32)) < 0 ∨ 60 ≤ (x17 - (1 : Int32)).toNatClampNeg)) (
if (q11.2 23 (x17 - (1 : Int32)).toNatClampNeg) = 0 then
j24 ()
else
j19 q11.2)
section PR2
variable {S S1 S0 : zSt} {M M1 M0 : zMs} {a b g d k : Nat}
theorem z01 : ((0 : Int32) - 1 < 0) = True := eq_true (by decide)
theorem pM_comm {k1 k2 : Nat} (h : k1 ≠ k2) (M : zMs) (i j : Nat) (v w : Int32) : pM (pM M k1 i v) k2 j w = pM (pM M k2 j w) k1 i v := by
  funext x y
  rw [pM_at, pM_at, pM_at, pM_at]
  by_cases e1 : x = k1
  · rw [if_neg (c := x = k2 ∧ y = j) (fun q => h (e1.symm.trans q.1))]
    rw [if_neg (c := x = k2 ∧ y = j) (fun q => h (e1.symm.trans q.1))]
  · rw [if_neg (c := x = k1 ∧ y = i) (fun q => e1 q.1)]
    rw [if_neg (c := x = k1 ∧ y = i) (fun q => e1 q.1)]
theorem tc (hg : g < 40) (hR : RU S M g) (hp : PT S a b M g d) (hk : k < 8) : ∃ S1 M1 d1, fX5_takeSwitch S a b 1 g (nI k) = some S1 ∧ fX10_close M (nI k) = some M1 ∧ PT S1 a b M1 g d1 ∧ plF S S1 a b ∧ clF M M1 ∧ ∃ x, x ≤ 14000 ∧ M1 41 0 = M 41 0 + nI x ∧ plM M1 = cls M g k (plM M) := by
  have hp0 := hp
  obtain ⟨p40, p42, p3, s2, s3, ps⟩ := hp
  have hpl := plM_e p42 p3
  obtain ⟨pts, hpts, e12, e28⟩ := hR.1 k hk
  cases d with
  | zero =>
    rw [nI_0] at p42 s2
    have h1 := PT_sc hp0 (M 41 0 + nI pts)
    have F1 : plF S (pI S (6, a, b) 3 (M 41 0 + nI pts)) a b := plF_p (by omega) _ _
    have G1 : clF M (pM M 41 0 (M 41 0 + nI pts)) := clF_p (by omega) _ _
    obtain ⟨S1, M1, d1, e1, e2, h2, F2, G2, x2, x3⟩ := bgm hg (RU_F hR F1 G1) h1 hk
    refine ⟨S1, M1, d1, ?_, ?_, h2, plF_t F1 F2, clF_t G1 G2, pts, by omega, ?_, ?_⟩
    · unfold fX5_takeSwitch
      simp (disch := omega) only [st_q, cl_q, cl2_q, cxr_q, cxl_q, i10, if_true, if_false, Bool.false_eq_true, s2, s3, z01, om_n, pointsOf_eq, e12, Int32.mul_one, e1]
    · rw [close_eq]
      unfold closeX
      simp (disch := omega) only [Nat.add_sub_cancel, nI_0, c2I, c3I, c4I, c6I, c8I, c9I, c10I, c15I, c16I, c20I, c30I, c40I, c48I, c60I, c100I, c120I, c159I, c160I, c239I, c240I, c256I, c300I, c318I, c320I, c720I, c840I, c960I, c2520I, c36000I, c1048576I, nI_1, nI_add, pk_mul, nI_pred1, nI_pm1, pk_sub, pk_div, nI_clamp, nI_lz, nI_leI, nI_ltI, nI_eq, nI_z, nI_lez, nI_gez, nI_gtz, nI_m, nI_m2, nI_lem, nI_ltm, nleF, leT, ltT, ltF, eqT, eqF, false_or, or_false, not_false_eq_true, not_true_eq_false, gd_T, st_q, cl_q, cl2_q, cxr_q, cxl_q, i10, if_true, if_false, Bool.false_eq_true, p42, p40, e28, Int32.one_mul, pMn, Int32.le_refl, e2]
    · rw [x2, pM_s]
    · rw [x3, bgn_r (pMn (by omega) _ _), hpl, plM_e (M := pM M 41 0 (M 41 0 + nI pts)) (d := 0) (by rw [pMn (by omega), p42, nI_0]) (by omega)]
      unfold cls
      simp only [pM_s, e28, pMn (show (43 : Nat) ≠ 41 by omega), pMn (show (44 : Nat) ≠ 41 by omega)]
  | succ e =>
    obtain ⟨j, hj, m43, s14, m29, s15⟩ := ps e (Nat.lt_succ_self _)
    rcases hR.2 j hj with ⟨-, n29⟩ | ⟨n, B, E, L, T, P, q0, hB, hE, hL, hT, hP, z0, n29, z1, n30, z2, n31, z3, n32, z4, n33⟩
    · exact absurd n29 m29
    · have h1 := PT_hit (PT_sc hp0 (M 41 0 + nI (pts * T))) e (M 44 e + 1)
      have F1 : plF S (pI (pI S (6, a, b) 3 (M 41 0 + nI (pts * T))) (15, a, b) e (M 44 e + 1)) a b := plF_t (plF_p (by omega) _ _) (plF_p (by omega) _ _)
      have G1 : clF M (pM (pM M 41 0 (M 41 0 + nI (pts * T))) 44 e (M 44 e + 1)) := clF_t (clF_p (by omega) _ _) (clF_p (by omega) _ _)
      have hx : pts * T ≤ 1000 * 9 := Nat.mul_le_mul hpts hT
      by_cases hend : k = E ∨ M 44 e + 1 = nI L
      · refine ⟨pI (pI (pI (pI S (6, a, b) 3 (M 41 0 + nI (pts * T))) (15, a, b) e (M 44 e + 1)) (6, a, b) 2 (nI e)) (6, a, b) 3 (M 41 0 + nI (pts * T) + nI P), pM (pM (pM (pM M 41 0 (M 41 0 + nI (pts * T))) 44 e (M 44 e + 1)) 41 0 (M 41 0 + nI (pts * T) + nI P)) 42 0 (nI e), e, ?_, ?_, ?_, plF_t F1 (plF_t (plF_p (by omega) _ _) (plF_p (by omega) _ _)), clF_t G1 (clF_t (clF_p (by omega) _ _) (clF_p (by omega) _ _)), pts * T + P, by omega, ?_, ?_⟩
        · unfold fX5_takeSwitch
          by_cases hkE : k = E
          · simp (disch := omega) only [Nat.add_sub_cancel, nI_0, c2I, c3I, c4I, c6I, c8I, c9I, c10I, c15I, c16I, c20I, c30I, c40I, c48I, c60I, c100I, c120I, c159I, c160I, c239I, c240I, c256I, c300I, c318I, c320I, c720I, c840I, c960I, c2520I, c36000I, c1048576I, nI_1, nI_add, pk_mul, nI_pred1, nI_pm1, pk_sub, pk_div, nI_clamp, nI_lz, nI_leI, nI_ltI, nI_eq, nI_z, nI_lez, nI_gez, nI_gtz, nI_m, nI_m2, nI_lem, nI_ltm, nleF, leT, ltT, ltF, eqT, eqF, false_or, or_false, not_false_eq_true, not_true_eq_false, gd_T, st_q, cl_q, cl2_q, cxr_q, cxl_q, i10, if_true, if_false, Bool.false_eq_true, s2, s3, s14, modeOf_eq, q0, om_s, pointsOf_eq, e12, z3, z1, z4, s15, zI_at, Prod.mk.injEq, eqT, eqF, true_and, and_true, false_and, and_false, if_true, if_false]
          · have hh := hend.resolve_left hkE
            simp (disch := omega) only [Nat.add_sub_cancel, nI_0, c2I, c3I, c4I, c6I, c8I, c9I, c10I, c15I, c16I, c20I, c30I, c40I, c48I, c60I, c100I, c120I, c159I, c160I, c239I, c240I, c256I, c300I, c318I, c320I, c720I, c840I, c960I, c2520I, c36000I, c1048576I, nI_1, nI_add, pk_mul, nI_pred1, nI_pm1, pk_sub, pk_div, nI_clamp, nI_lz, nI_leI, nI_ltI, nI_eq, nI_z, nI_lez, nI_gez, nI_gtz, nI_m, nI_m2, nI_lem, nI_ltm, nleF, leT, ltT, ltF, eqT, eqF, false_or, or_false, not_false_eq_true, not_true_eq_false, gd_T, st_q, cl_q, cl2_q, cxr_q, cxl_q, i10, if_true, if_false, Bool.false_eq_true, s2, s3, s14, modeOf_eq, q0, om_s, pointsOf_eq, e12, z3, z1, z2, z4, s15, zI_at, Prod.mk.injEq, eqT, eqF, true_and, and_true, false_and, and_false, if_true, if_false, nI_eq, hh]
        · rw [close_eq]
          unfold closeX
          by_cases hkE : k = E
          · simp (disch := omega) only [Nat.add_sub_cancel, nI_0, c2I, c3I, c4I, c6I, c8I, c9I, c10I, c15I, c16I, c20I, c30I, c40I, c48I, c60I, c100I, c120I, c159I, c160I, c239I, c240I, c256I, c300I, c318I, c320I, c720I, c840I, c960I, c2520I, c36000I, c1048576I, nI_1, nI_add, pk_mul, nI_pred1, nI_pm1, pk_sub, pk_div, nI_clamp, nI_lz, nI_leI, nI_ltI, nI_eq, nI_z, nI_lez, nI_gez, nI_gtz, nI_m, nI_m2, nI_lem, nI_ltm, nleF, leT, ltT, ltF, eqT, eqF, false_or, or_false, not_false_eq_true, not_true_eq_false, gd_T, st_q, cl_q, cl2_q, cxr_q, cxl_q, i10, if_true, if_false, Bool.false_eq_true, p42, p40, m43, e28, n32, n30, n33, pM_s, pMn, Nat.mul_comm T pts]
          · have hh := hend.resolve_left hkE
            simp (disch := omega) only [Nat.add_sub_cancel, nI_0, c2I, c3I, c4I, c6I, c8I, c9I, c10I, c15I, c16I, c20I, c30I, c40I, c48I, c60I, c100I, c120I, c159I, c160I, c239I, c240I, c256I, c300I, c318I, c320I, c720I, c840I, c960I, c2520I, c36000I, c1048576I, nI_1, nI_add, pk_mul, nI_pred1, nI_pm1, pk_sub, pk_div, nI_clamp, nI_lz, nI_leI, nI_ltI, nI_eq, nI_z, nI_lez, nI_gez, nI_gtz, nI_m, nI_m2, nI_lem, nI_ltm, nleF, leT, ltT, ltF, eqT, eqF, false_or, or_false, not_false_eq_true, not_true_eq_false, gd_T, st_q, cl_q, cl2_q, cxr_q, cxl_q, i10, if_true, if_false, Bool.false_eq_true, p42, p40, m43, e28, n32, n30, n31, n33, pM_s, pMn, Nat.mul_comm T pts, nI_eq, hh]
        · have h2 := PT_sc (PT_pop h1) (M 41 0 + nI (pts * T) + nI P)
          rw [pM_comm (by decide) _ _ _ _ _] at h2
          exact h2
        · simp (disch := omega) only [pM_s, pMn]
          rw [Int32.add_assoc, nI_add]
        · have hm : (nrm (e + 1) (M 43) e).toNatClampNeg % 4 = j := by rw [nrm_a (Nat.lt_succ_self _), m43, nI_clamp (by omega), Nat.mod_eq_of_lt hj]
          have hh : nrm (e + 1) (M 44) e = M 44 e := nrm_a (Nat.lt_succ_self _) _
          have hcd : nI k = M 30 (4 * g + (nrm (e + 1) (M 43) e).toNatClampNeg % 4) ∨ nrm (e + 1) (M 44) e + 1 = M 31 (4 * g + (nrm (e + 1) (M 43) e).toNatClampNeg % 4) := by
            rw [hm, hh, n30, n31]
            rcases hend with q | q
            · exact Or.inl (by rw [q])
            · exact Or.inr q
          rw [hpl]
          refine Eq.trans ?_ (if_pos hcd).symm
          dsimp only
          rw [hm, plM_e (d := e) (by rw [pM_s]) (by omega), n32, n33, e28, pk_mul, Nat.mul_comm T pts]
          simp (disch := omega) only [pM_s, pMn, pM_up]
          rw [nrm_ge, nrm_n (Nat.le_succ _), nrm_n (Nat.le_succ _)]
      · have hkE : k ≠ E := fun q => hend (Or.inl q)
        have hh : ¬ M 44 e + 1 = nI L := fun q => hend (Or.inr q)
        obtain ⟨S1, M1, d1, e1, e2, h2, F2, G2, x2, x3⟩ := bgm hg (RU_F hR F1 G1) h1 hk
        refine ⟨S1, M1, d1, ?_, ?_, h2, plF_t F1 F2, clF_t G1 G2, pts * T, by omega, ?_, ?_⟩
        · unfold fX5_takeSwitch
          simp (disch := omega) only [Nat.add_sub_cancel, nI_0, c2I, c3I, c4I, c6I, c8I, c9I, c10I, c15I, c16I, c20I, c30I, c40I, c48I, c60I, c100I, c120I, c159I, c160I, c239I, c240I, c256I, c300I, c318I, c320I, c720I, c840I, c960I, c2520I, c36000I, c1048576I, nI_1, nI_add, pk_mul, nI_pred1, nI_pm1, pk_sub, pk_div, nI_clamp, nI_lz, nI_leI, nI_ltI, nI_eq, nI_z, nI_lez, nI_gez, nI_gtz, nI_m, nI_m2, nI_lem, nI_ltm, nleF, leT, ltT, ltF, eqT, eqF, false_or, or_false, not_false_eq_true, not_true_eq_false, gd_T, st_q, cl_q, cl2_q, cxr_q, cxl_q, i10, if_true, if_false, Bool.false_eq_true, s2, s3, s14, modeOf_eq, q0, om_s, pointsOf_eq, e12, z3, z1, z2, s15, zI_at, Prod.mk.injEq, eqT, eqF, true_and, and_true, false_and, and_false, if_true, if_false, nI_eq, hh, e1]
        · rw [close_eq]
          unfold closeX
          simp (disch := omega) only [Nat.add_sub_cancel, nI_0, c2I, c3I, c4I, c6I, c8I, c9I, c10I, c15I, c16I, c20I, c30I, c40I, c48I, c60I, c100I, c120I, c159I, c160I, c239I, c240I, c256I, c300I, c318I, c320I, c720I, c840I, c960I, c2520I, c36000I, c1048576I, nI_1, nI_add, pk_mul, nI_pred1, nI_pm1, pk_sub, pk_div, nI_clamp, nI_lz, nI_leI, nI_ltI, nI_eq, nI_z, nI_lez, nI_gez, nI_gtz, nI_m, nI_m2, nI_lem, nI_ltm, nleF, leT, ltT, ltF, eqT, eqF, false_or, or_false, not_false_eq_true, not_true_eq_false, gd_T, st_q, cl_q, cl2_q, cxr_q, cxl_q, i10, if_true, if_false, Bool.false_eq_true, p42, p40, m43, e28, n32, n30, n31, pM_s, pMn, Nat.mul_comm T pts, nI_eq, hh, e2]
        · rw [x2]
          simp (disch := omega) only [pM_s, pMn]
        · have hm : (nrm (e + 1) (M 43) e).toNatClampNeg % 4 = j := by rw [nrm_a (Nat.lt_succ_self _), m43, nI_clamp (by omega), Nat.mod_eq_of_lt hj]
          have hh2 : nrm (e + 1) (M 44) e = M 44 e := nrm_a (Nat.lt_succ_self _) _
          have hcd : ¬ (nI k = M 30 (4 * g + (nrm (e + 1) (M 43) e).toNatClampNeg % 4) ∨ nrm (e + 1) (M 44) e + 1 = M 31 (4 * g + (nrm (e + 1) (M 43) e).toNatClampNeg % 4)) := by
            rw [hm, hh2, n30, n31]
            exact fun q => q.elim (fun q => hkE ((nI_eq (by omega) (by omega)).mp q)) hh
          rw [x3, bgn_r (M := M) (by rw [pMn (by omega), pMn (by omega)]), hpl]
          refine Eq.trans ?_ (if_neg hcd).symm
          dsimp only
          rw [hm, hh2, plM_e (d := e + 1) (by rw [pMn (by omega), pMn (by omega), p42]) p3, n32, e28, pk_mul, Nat.mul_comm T pts]
          simp (disch := omega) only [pM_s, pMn, pM_up]
          rw [nrm_lt (Nat.lt_succ_self _)]
theorem vMd_n {c : zId} {j k n : Nat} {d x : Int32} (hq : zQ S c j = some n) (h : vMd S c j k d = x) (hx : ∃ m : Nat, m < 2 ^ 31 ∧ x = nI m) : zI S (4, n, 0) k = x := by
  obtain ⟨m, hm, rfl⟩ := hx
  unfold vMd at h
  rw [hq] at h
  have h : (if zI S (4, n, 0) k = -1 then (-2 : Int32) else zI S (4, n, 0) k) = nI m := h
  by_cases e : zI S (4, n, 0) k = -1
  · rw [if_pos e] at h
    exfalso
    have h1 : nI m < 0 := by rw [← h]; decide
    exact nI_pos hm h1
  · rw [if_neg e] at h; exact h
theorem RU_tie (h : Tie S M) (hg : g < nG M) : RU S M g := by
  obtain ⟨-, -, -, -, g5, g6, -⟩ := gm h.1 hg
  refine ⟨fun k hk => ?_, fun j hj => ?_⟩
  · obtain ⟨n, -, hn, e⟩ := g5 k hk
    refine ⟨n, hn, ?_, e⟩
    obtain ⟨e1, e2⟩ := dm8 (t := g) hk
    have := ag h 28 (8 * g + k) (show (8 * g + k) / 8 < nG M by rw [e1]; exact hg)
    rw [e] at this
    rw [← this]
    show _ = zI S (12, 1, (8 * g + k) / 8) ((8 * g + k) % 8)
    rw [e1, e2]
  · obtain ⟨e1, e2⟩ := dm4 (t := g) hj
    have hd : (4 * g + j) / 4 < nG M := by rw [e1]; exact hg
    have a29 : vMd S (13, 1, g) j 0 (-1) = M 29 (4 * g + j) := by
      rw [← ag h 29 (4 * g + j) hd]
      show _ = vMd S (13, 1, (4 * g + j) / 4) ((4 * g + j) % 4) 0 (-1)
      rw [e1, e2]
    cases hq : zQ S (13, 1, g) j with
    | none =>
      left
      refine ⟨rfl, ?_⟩
      rw [← a29]
      unfold vMd
      rw [hq]
    | some n =>
      right
      rcases g6 j hj with hB | ⟨⟨B, -, hB, eB⟩, ⟨E, -, hE, eE⟩, ⟨L, -, hL, eL⟩, ⟨T, -, hT, eT⟩, ⟨P, -, hP, eP⟩⟩
      · exfalso
        rw [hB] at a29
        unfold vMd at a29
        rw [hq] at a29
        have a29 : (if zI S (4, n, 0) 0 = -1 then (-2 : Int32) else zI S (4, n, 0) 0) = -1 := a29
        by_cases e : zI S (4, n, 0) 0 = -1
        · rw [if_pos e] at a29
          revert a29
          decide
        · rw [if_neg e] at a29; exact e a29
      · have hne : M 29 (4 * g + j) ≠ -1 := by rw [eB]; exact of_eq_false (nI_m (by omega))
        have a30 : vMd S (13, 1, g) j 1 0 = M 30 (4 * g + j) := by
          rw [← ag h 30 (4 * g + j) ⟨hd, hne⟩]
          show _ = vMd S (13, 1, (4 * g + j) / 4) ((4 * g + j) % 4) 1 0
          rw [e1, e2]
        have a31 : vMd S (13, 1, g) j 2 0 = M 31 (4 * g + j) := by
          rw [← ag h 31 (4 * g + j) ⟨hd, hne⟩]
          show _ = vMd S (13, 1, (4 * g + j) / 4) ((4 * g + j) % 4) 2 0
          rw [e1, e2]
        have a32 : vMd S (13, 1, g) j 3 0 = M 32 (4 * g + j) := by
          rw [← ag h 32 (4 * g + j) ⟨hd, hne⟩]
          show _ = vMd S (13, 1, (4 * g + j) / 4) ((4 * g + j) % 4) 3 0
          rw [e1, e2]
        have a33 : vMd S (13, 1, g) j 4 0 = M 33 (4 * g + j) := by
          rw [← ag h 33 (4 * g + j) ⟨hd, hne⟩]
          show _ = vMd S (13, 1, (4 * g + j) / 4) ((4 * g + j) % 4) 4 0
          rw [e1, e2]
        refine ⟨n, B, E, L, T, P, rfl, hB, hE, hL, hT, hP, ?_, eB, ?_, eE, ?_, eL, ?_, eT, ?_, eP⟩
        · rw [← eB]; exact vMd_n hq a29 ⟨B, by omega, eB⟩
        · rw [← eE]; exact vMd_n hq a30 ⟨E, by omega, eE⟩
        · rw [← eL]; exact vMd_n hq a31 ⟨L, by omega, eL⟩
        · rw [← eT]; exact vMd_n hq a32 ⟨T, by omega, eT⟩
        · rw [← eP]; exact vMd_n hq a33 ⟨P, by omega, eP⟩
theorem RU_R (h : RU S M g) (r : ∀ k, k < 40 → M1 k = M k) : RU S M1 g := by
  have : RU S M1 g = RU S M g := by
    unfold RU
    simp only [r 28 (by omega), r 29 (by omega), r 30 (by omega), r 31 (by omega), r 32 (by omega), r 33 (by omega)]
  rw [this]
  exact h
def rpF (M M1 : zMs) : Prop := ∀ k, k < 40 ∨ 47 < k → M1 k = M k
theorem rpF_t {M2 : zMs} (h : rpF M M1) (h1 : rpF M1 M2) : rpF M M2 := fun k hk => (h1 k hk).trans (h k hk)
theorem rpF_w {p : Nat} (h : wkF M M1 p) : rpF M M1 := fun k hk => h.1 k (by omega) (by omega) (by omega)
theorem rpF_c (h : clF M M1) : rpF M M1 := fun k hk => h k (by omega) (by omega) (by omega) (by omega)
theorem rpF_p {k : Nat} (h : 40 ≤ k ∧ k ≤ 47) (i : Nat) (v : Int32) : rpF M (pM M k i v) := fun k1 h1 => pMn (by omega) i v
theorem rpF_e (h : rpF M M1) : eqM M M1 := fun k hk => h k (by unfold visR at hk; omega)
theorem plF_h (h : plF S S1 1 0) : eqH S S1 := ⟨fun c hc => h.1 c (fun e => hc (by rw [e]; unfold hidC; simp)) (fun e => hc (by rw [e]; unfold hidC; simp)) (fun e => hc (by rw [e]; unfold hidC; simp)), h.2⟩
theorem PT_R (hp : PT S a b M g d) (r : ∀ k, k < 45 → M1 k = M k) : PT S a b M1 g d := by
  have : PT S a b M1 g d = PT S a b M g d := by
    unfold PT
    simp only [r 40 (by omega), r 41 (by omega), r 42 (by omega), r 43 (by omega), r 44 (by omega), r 29 (by omega)]
  rw [this]
  exact hp
theorem At_c {p : Nat} {r : List Nat} (ha : At M0 M g p r) (h : clF M M1) : At M0 M1 g p r := by
  obtain ⟨b, n, w, h45, h46, h47, hv⟩ := ha
  exact ⟨b, n, w, (congrFun (h 45 (by omega) (by omega) (by omega) (by omega)) p).trans h45, (congrFun (h 46 (by omega) (by omega) (by omega) (by omega)) p).trans h46, (congrFun (h 47 (by omega) (by omega) (by omega) (by omega)) p).trans h47, hv⟩
theorem entryOf_L (h : ∀ c, zL S1 c = zL S c) (g : Nat) (i : Int32) : fX2_entryOf S1 g i = fX2_entryOf S g i := by
  unfold fX2_entryOf
  rw [h]
theorem isMended_eq (S : zSt) {n : Nat} (hn : n < 60) : fX9_isMended S (nI n) = some (if zI S (21, 0, 0) n = 0 then 0 else 1) := by
  unfold fX9_isMended
  by_cases e : zI S (21, 0, 0) n = 0
  · simp (disch := omega) only [Nat.add_sub_cancel, nI_0, c2I, c3I, c4I, c6I, c8I, c9I, c10I, c15I, c16I, c20I, c30I, c40I, c48I, c60I, c100I, c120I, c159I, c160I, c239I, c240I, c256I, c300I, c318I, c320I, c720I, c840I, c960I, c2520I, c36000I, c1048576I, nI_1, nI_add, pk_mul, nI_pred1, nI_pm1, pk_sub, pk_div, nI_clamp, nI_lz, nI_leI, nI_ltI, nI_eq, nI_z, nI_lez, nI_gez, nI_gtz, nI_m, nI_m2, nI_lem, nI_ltm, nleF, leT, ltT, ltF, eqT, eqF, false_or, or_false, not_false_eq_true, not_true_eq_false, gd_T, st_q, cl_q, cl2_q, cxr_q, cxl_q, i10, if_true, if_false, Bool.false_eq_true, e]
  · simp (disch := omega) only [Nat.add_sub_cancel, nI_0, c2I, c3I, c4I, c6I, c8I, c9I, c10I, c15I, c16I, c20I, c30I, c40I, c48I, c60I, c100I, c120I, c159I, c160I, c239I, c240I, c256I, c300I, c318I, c320I, c720I, c840I, c960I, c2520I, c36000I, c1048576I, nI_1, nI_add, pk_mul, nI_pred1, nI_pm1, pk_sub, pk_div, nI_clamp, nI_lz, nI_leI, nI_ltI, nI_eq, nI_z, nI_lez, nI_gez, nI_gtz, nI_m, nI_m2, nI_lem, nI_ltm, nleF, leT, ltT, ltF, eqT, eqF, false_or, or_false, not_false_eq_true, not_true_eq_false, gd_T, st_q, cl_q, cl2_q, cxr_q, cxl_q, i10, if_true, if_false, Bool.false_eq_true, e]
theorem isMended_m : fX9_isMended S ((0 : Int32) - 1) = some 0 := by
  unfold fX9_isMended
  simp only [st_q, z01, if_true]
/-- the entries that count -/
def kept (w : Int32) (M : zMs) (l : List Nat) : List Nat := l.filter (fun e => decide (w = 0 ∨ e / 1048576 = 0 ∨ M 23 (e / 1048576 - 1) = 0))
def pl0 : plT := (0, 0, fun _ => 0, fun _ => 0)
theorem replay_lp (h : Tie S0 M0) (hg : g < nG M0) (w : Int32) : ∀ (r : List Nat) (k fuel : Nat) (S : zSt) (M : zMs) (d s : Nat), plF S0 S 1 0 → rpF M0 M → PT S 1 0 M g d → At M0 M g 0 r.tail → k + r.length = (ents M0 g).length → (∀ i, r[i]? = (ents M0 g)[k + i]?) → M 41 0 = nI s → s ≤ 14000 * k → r.length < fuel → ∀ l0 : List Nat, plM M = plS M0 g l0 pl0 →
    ∃ S1 M1 s1, lp (bX9_replay g w) fuel (nI k, S) = some (nI s1, S1) ∧ lp (bX10_replay (nI g) w) fuel (hdE r, M) = some (nI s1, M1) ∧ plF S0 S1 1 0 ∧ rpF M0 M1 ∧ s1 ≤ 14000 * 2520 ∧ nI s1 = (plS M0 g (l0 ++ kept w M0 r) pl0).1 := by
  have hg4 := nG40 h.1
  have hl := ents_2520 h.1 hg
  intro r
  induction r with
  | nil =>
    intro k fuel S M d s hS hM hp ha hk hr hs hb hf l0 hl0
    obtain ⟨f, rfl⟩ : ∃ f, fuel = f + 1 := ⟨fuel - 1, by omega⟩
    have hk : k = (ents M0 g).length := by simpa using hk
    have e3 : zI S (3, g, 0) 4 = nI k := by rw [hS.1 _ (kne (show (3 : Nat) ≠ 6 by decide)) (kne (show (3 : Nat) ≠ 14 by decide)) (kne (show (3 : Nat) ≠ 15 by decide)), log_len h hg, hk]
    refine ⟨S, M, s, lp_e _ f ?_, lp_e _ f ?_, hS, hM, by omega, by show nI s = (plS M0 g (l0 ++ []) pl0).1; rw [List.append_nil, ← hl0, ← hs]; rfl⟩
    · unfold bX9_replay
      dsimp only
      rw [e3, if_pos (Int32.le_refl _), hp.2.2.2.2.1, hs]
    · unfold bX10_replay
      show (if (-1 : Int32) = -1 then _ else _) = _
      rw [if_pos rfl]
      dsimp only
      rw [hs]
  | cons e r ih =>
    intro k fuel S M d s hS hM hp ha hk hr hs hb hf l0 hl0
    obtain ⟨f, rfl⟩ : ∃ f, fuel = f + 1 := ⟨fuel - 1, by omega⟩
    rw [List.length_cons] at hk hf
    have he : (ents M0 g)[k]? = some e := (hr 0).symm
    obtain ⟨o1, o2, o3⟩ := ents_mem h.1 hg (List.mem_of_getElem? he)
    have hr1 : ∀ i, r[i]? = (ents M0 g)[k + 1 + i]? := fun i => by
      have := hr (i + 1)
      rw [List.getElem?_cons_succ] at this
      rw [this, show k + 1 + i = k + (i + 1) by omega]
    have e3 : zI S (3, g, 0) 4 = nI (ents M0 g).length := by rw [hS.1 _ (kne (show (3 : Nat) ≠ 6 by decide)) (kne (show (3 : Nat) ≠ 14 by decide)) (kne (show (3 : Nat) ≠ 15 by decide)), log_len h hg]
    have e3n : ¬ nI (ents M0 g).length ≤ nI k := nI_ge (by omega) (by omega)
    have eE : fX2_entryOf S g (nI k) = some (lN e) := by rw [entryOf_L hS.2.1]; exact entryOf_eq h hg he
    have hR : RU S M g := RU_R (RU_F (RU_tie h hg) hS (clF_r M0)) (fun k hk => hM k (Or.inl hk))
    obtain ⟨S1, M1, d1, e1, e2, hp1, F1, G1, x, hx, hx2, hx3⟩ := tc (k := e % 16) (by omega) hR hp o2
    have hM1 : rpF M0 M1 := rpF_t hM (rpF_c G1)
    obtain ⟨M2, n2, a2, W2⟩ := next_eq h.1 hg (show 0 < 2 by omega) (rpF_e hM1) (At_c ha G1)
    rw [nI_0] at n2
    obtain ⟨M3, n3, a3, W3⟩ := next_eq h.1 hg (show 0 < 2 by omega) (rpF_e hM) ha
    rw [nI_0] at n3
    have n2 : fX10_next M1 0 (nI g) = some (hdE r, M2) := n2
    have n3 : fX10_next M 0 (nI g) = some (hdE r, M3) := n3
    have hne : ¬ nI e = -1 := of_eq_false (nI_m (by omega))
    have ed : nI e / (1048576 : Int32) = nI (e / 1048576) := pk_div (d := 1048576) (by omega) (by omega) (by omega)
    have em : nI e - nI e / (16 : Int32) * (16 : Int32) = nI (e % 16) := pk_rem (d := 16) (by omega) (by omega) (by omega)
    have hsw : fX2_switchIn S (lN e) = some (nI (e % 16)) := by unfold fX2_switchIn; rw [en_sw o1]
    have hst : fX2_stickingIn S (lN e) = some (nI (e / 1048576) - 1) := by unfold fX2_stickingIn; rw [en_st o1]
    -- played
    have play : kept w M0 (e :: r) = e :: kept w M0 r → bX9_replay g w (nI k, S) = some (.inl (nI (k + 1), S1)) → bX10_replay (nI g) w (nI e, M) = some (.inl (hdE r, M2)) → ∃ S1 M1 s1, lp (bX9_replay g w) (f + 1) (nI k, S) = some (nI s1, S1) ∧ lp (bX10_replay (nI g) w) (f + 1) (hdE (e :: r), M) = some (nI s1, M1) ∧ plF S0 S1 1 0 ∧ rpF M0 M1 ∧ s1 ≤ 14000 * 2520 ∧ nI s1 = (plS M0 g (l0 ++ kept w M0 (e :: r)) pl0).1 := by
      intro e0 b1 b2
      show ∃ S1 M1 s1, lp (bX9_replay g w) (f + 1) (nI k, S) = some (nI s1, S1) ∧ lp (bX10_replay (nI g) w) (f + 1) (nI e, M) = some (nI s1, M1) ∧ _
      rw [lp_s _ f b1, lp_s _ f b2]
      have eM2 : plM M2 = plS M0 g (l0 ++ [e]) pl0 := by
        have e1 : plM M2 = plM M1 := by
          unfold plM
          rw [W2.1 41 (by omega) (by omega) (by omega), W2.1 42 (by omega) (by omega) (by omega), W2.1 43 (by omega) (by omega) (by omega), W2.1 44 (by omega) (by omega) (by omega)]
        rw [e1, hx3, plS_a, ← hl0]
        exact cls_g (congrFun (hM 28 (by omega)) _) (fun q q1 q2 j _ => congrFun (hM q (by omega)) _) _
      have := ih (k + 1) f S1 M2 d1 (s + x) (plF_t hS F1) (rpF_t hM1 (rpF_w W2)) (PT_R hp1 (fun q hq => W2.1 q (by omega) (by omega) (by omega))) a2 (by omega) hr1 (by rw [W2.1 41 (by omega) (by omega) (by omega), hx2, hs, nI_add]) (by omega) (by omega) (l0 ++ [e]) eM2
      rw [e0, show l0 ++ e :: kept w M0 r = l0 ++ [e] ++ kept w M0 r by rw [List.append_assoc]; rfl]
      exact this
    have skip : kept w M0 (e :: r) = kept w M0 r → bX9_replay g w (nI k, S) = some (.inl (nI (k + 1), S)) → bX10_replay (nI g) w (nI e, M) = some (.inl (hdE r, M3)) → ∃ S1 M1 s1, lp (bX9_replay g w) (f + 1) (nI k, S) = some (nI s1, S1) ∧ lp (bX10_replay (nI g) w) (f + 1) (hdE (e :: r), M) = some (nI s1, M1) ∧ plF S0 S1 1 0 ∧ rpF M0 M1 ∧ s1 ≤ 14000 * 2520 ∧ nI s1 = (plS M0 g (l0 ++ kept w M0 (e :: r)) pl0).1 := by
      intro e0 b1 b2
      show ∃ S1 M1 s1, lp (bX9_replay g w) (f + 1) (nI k, S) = some (nI s1, S1) ∧ lp (bX10_replay (nI g) w) (f + 1) (nI e, M) = some (nI s1, M1) ∧ _
      rw [lp_s _ f b1, lp_s _ f b2]
      have eM3 : plM M3 = plS M0 g l0 pl0 := by
        rw [← hl0]
        unfold plM
        rw [W3.1 41 (by omega) (by omega) (by omega), W3.1 42 (by omega) (by omega) (by omega), W3.1 43 (by omega) (by omega) (by omega), W3.1 44 (by omega) (by omega) (by omega)]
      have := ih (k + 1) f S M3 d s hS (rpF_t hM (rpF_w W3)) (PT_R hp (fun q hq => W3.1 q (by omega) (by omega) (by omega))) a3 (by omega) hr1 (by rw [W3.1 41 (by omega) (by omega) (by omega), hs]) (by omega) (by omega) l0 eM3
      rw [e0]
      exact this
    by_cases w0 : w = 0
    · refine play (List.filter_cons_of_pos (decide_eq_true (Or.inl w0))) ?_ ?_
      · unfold bX9_replay
        simp only [e3, e3n, if_false, eE, cl_q, st_q, w0, if_true, hsw, e1, nI_1]
      · unfold bX10_replay
        simp only [hne, if_false, st_q, w0, if_true, em, e2, cl_q, n2, cl2_q]
    · by_cases s0 : e / 1048576 = 0
      · refine play (List.filter_cons_of_pos (decide_eq_true (Or.inr (Or.inl s0)))) ?_ ?_
        · unfold bX9_replay
          simp only [e3, e3n, if_false, eE, cl_q, st_q, w0, if_true, hsw, e1, nI_1, hst, s0, nI_0, isMended_m]
        · unfold bX10_replay
          simp only [hne, if_false, st_q, w0, if_true, em, e2, cl_q, n2, cl2_q, ed, s0, nI_0]
      · have hst1 : nI (e / 1048576) - 1 = nI (e / 1048576 - 1) := nI_pred1 (by omega)
        have h23 : zI S (21, 0, 0) (e / 1048576 - 1) = M 23 (e / 1048576 - 1) := by
          rw [hM 23 (by omega), hS.1 _ (kne (show (21 : Nat) ≠ 6 by decide)) (kne (show (21 : Nat) ≠ 14 by decide)) (kne (show (21 : Nat) ≠ 15 by decide))]
          exact ag h 23 _ (show e / 1048576 - 1 < 60 by omega)
        have hd0 : ¬ nI (e / 1048576) = 0 := nI_ne0 (by omega) (by omega)
        by_cases hm : M 23 (e / 1048576 - 1) = 0
        · refine play (List.filter_cons_of_pos (decide_eq_true (Or.inr (Or.inr ((congrFun (hM 23 (Or.inl (by omega))) _).symm.trans hm))))) ?_ ?_
          · unfold bX9_replay
            simp only [e3, e3n, if_false, eE, cl_q, st_q, w0, if_true, hsw, e1, nI_1, hst, hst1, isMended_eq S (show e / 1048576 - 1 < 60 by omega), h23, hm]
          · unfold bX10_replay
            simp only [hne, if_false, st_q, w0, if_true, em, e2, cl_q, n2, cl2_q, ed, hd0, hst1, nI_clamp (show e / 1048576 - 1 < 2 ^ 31 by omega), gd_t (show ¬ (nI (e / 1048576 - 1) < 0 ∨ 60 ≤ e / 1048576 - 1) from fun q => q.elim (nI_pos (by omega)) (by omega)), hm]
        · refine skip (List.filter_cons_of_neg (fun q => (of_decide_eq_true q).elim w0 (fun q => q.elim s0 (fun q => hm ((congrFun (hM 23 (Or.inl (by omega))) _).trans q))))) ?_ ?_
          · unfold bX9_replay
            simp only [e3, e3n, if_false, eE, cl_q, st_q, w0, nI_1, hst, hst1, isMended_eq S (show e / 1048576 - 1 < 60 by omega), h23, hm, i10]
          · unfold bX10_replay
            simp only [hne, if_false, st_q, w0, cl_q, n3, cl2_q, ed, hd0, hst1, nI_clamp (show e / 1048576 - 1 < 2 ^ 31 by omega), gd_t (show ¬ (nI (e / 1048576 - 1) < 0 ∨ 60 ≤ e / 1048576 - 1) from fun q => q.elim (nI_pos (by omega)) (by omega)), hm]
theorem replay_eq (h : Tie S M) (hg : g < nG M) (w : Int32) : ∃ S1 M1 s1, fX9_replayedScore S g w = some (nI s1, S1) ∧ fX10_replayed M (nI g) w = some (nI s1, M1) ∧ plF S S1 1 0 ∧ rpF M M1 ∧ s1 ≤ 14000 * 2520 ∧ nI s1 = (plS M g (kept w M (ents M g)) pl0).1 := by
  have hg4 := nG40 h.1
  have hl := ents_2520 h.1 hg
  have r1 : rpF M (pM (pM (pM M 40 0 (nI g)) 41 0 0) 42 0 0) := rpF_t (rpF_t (rpF_p (by omega) _ _) (rpF_p (by omega) _ _)) (rpF_p (by omega) _ _)
  obtain ⟨M2, e2, a2, W2⟩ := rewind_eq h.1 hg (show 0 < 2 by omega) (pM (pM (pM M 40 0 (nI g)) 41 0 0) 42 0 0)
  have r2 := rpF_t r1 (rpF_w W2)
  obtain ⟨M3, e3, a3, W3⟩ := next_eq h.1 hg (show 0 < 2 by omega) (rpF_e r2) a2
  have r3 := rpF_t r2 (rpF_w W3)
  rw [nI_0] at e2 e3
  have q (k : Nat) (hk : k < 45) : M3 k = pM (pM (pM M 40 0 (nI g)) 41 0 0) 42 0 0 k := (W3.1 k (by omega) (by omega) (by omega)).trans (W2.1 k (by omega) (by omega) (by omega))
  have FS : plF S (pI (pI S (6, 1, 0) 2 0) (6, 1, 0) 3 0) 1 0 := plF_t (plF_p (by omega) _ _) (plF_p (by omega) _ _)
  have hp : PT (pI (pI S (6, 1, 0) 2 0) (6, 1, 0) 3 0) 1 0 M3 g 0 := by
    refine ⟨?_, ?_, by omega, ?_, ?_, fun k hk => by omega⟩
    · rw [q 40 (by omega)]
      simp (disch := omega) only [pM_s, pMn]
    · rw [q 42 (by omega)]
      simp (disch := omega) only [pM_s, pMn, nI_0]
    · simp (disch := omega) only [zI_at, Prod.mk.injEq, eqT, eqF, true_and, and_true, false_and, and_false, if_true, if_false, nI_0]
    · rw [q 41 (by omega)]
      simp (disch := omega) only [zI_at, Prod.mk.injEq, eqT, eqF, true_and, and_true, false_and, and_false, if_true, if_false, pM_s, pMn]
  have hp0 : plM M3 = plS M g [] pl0 := by
    rw [plM_e (d := 0) (by rw [q 42 (by omega)]; simp (disch := omega) only [pM_s, pMn, nI_0]) (by omega), q 41 (by omega)]
    simp (disch := omega) only [pM_s, pMn]
    rfl
  obtain ⟨S1, M1, s1, l1, l2, F, G, hs, hs2⟩ := replay_lp h hg w (ents M g) 0 40000 _ M3 0 0 FS r3 hp a3 (by omega) (fun i => by rw [Nat.zero_add]) (by rw [q 41 (by omega)]; simp (disch := omega) only [pM_s, pMn, nI_0]) (by omega) (by omega) [] hp0
  rw [List.nil_append] at hs2
  rw [nI_0] at l1
  refine ⟨S1, M1, s1, ?_, ?_, F, G, hs, hs2⟩
  · unfold fX9_replayedScore fX5_restart
    simp only [st_q, cl_q]
    exact l1
  · unfold fX10_replayed
    simp only [st_q, e2, cl_q, e3, cl2_q]
    exact l2
theorem ok_replay (w : Int32) (i : Int32) (h : Tie S M) {f : Option ((Nat × zSt) ⊕ (Int32 × zSt))} {f1 : Option (Int32 × zMs)} (ef : f = cx (fX9_demandGame S i) fun r1 => cl2 (fX9_replayedScore S r1 w) fun r5 S7 => some (.inr (r5, S7))) (ef1 : f1 = cl2 (fX10_noGame M i) fun r1 M3 => if r1 = 0 then cl2 (fX10_replayed M3 i w) fun r5 M7 => some ((r5, M7)) else some (((0 : Int32), M3))) :
    zOk Tie [1] (fun y : (Int32 × zSt) => (y.1).toInt64) (fun y : (Int32 × zSt) => y.2) f (fun b : Int32 => b.toInt64) f1 := by
  subst ef; subst ef1
  rcases ixc i (nG M) (by have := nG40 h.1; omega) with hi | ⟨g, hg, rfl⟩
  · refine thr h (n := 1) (w := 1) (b := 0) (by simp) (by decide) ?_ ?_
    · rw [dG_out h hi, cx_l]
    · rw [noGame_out h.1 hi, cl2_s, if_neg i10]
  · obtain ⟨S1, M1, s1, e1, e2, F, G, -⟩ := replay_eq (tie_ref h 0) hg w
    refine Or.inl ⟨(nI s1, S1), nI s1, M1, ?_, ?_, ?_, rfl, tie_hid (tie_ref h 0) (plF_h F) (rpF_e G)⟩
    · rw [dG_in h hg, cx_r, e1, cl2_s]
    · rw [noGame_in h.1 hg, cl2_s, if_pos rfl, e2, cl2_s]
    · rw [G 0 (by omega)]; rfl
theorem ok_scoreByLog (S : zSt) (M : zMs) (i : Int32) (h : Tie S M) : zOk Tie [1] (fun y : (Int32 × zSt) => (y.1).toInt64) (fun y : (Int32 × zSt) => y.2) (fX9_scoreByLog S i) (fun b : Int32 => b.toInt64) (fX10_scoreByLog M i) := ok_replay 0 i h rfl rfl
theorem ok_valid (S : zSt) (M : zMs) (i : Int32) (h : Tie S M) : zOk Tie [1] (fun y : (Int32 × zSt) => (y.1).toInt64) (fun y : (Int32 × zSt) => y.2) (fX9_valid S i) (fun b : Int32 => b.toInt64) (fX10_valid M i) := ok_replay 1 i h rfl rfl
end PR2
