/-! the log of a game, as the reference walks it -/
def bX10_next (i_1 : Int32) (i_2 : Int32) : (zMs) → Option ((zMs) ⊕ (Int32 × zMs)) := fun (q1 : (zMs)) =>
gd (¬ (i_1 < 0 ∨ 2 ≤ i_1.toNatClampNeg)) (
gd (¬ (i_2 < 0 ∨ 40 ≤ i_2.toNatClampNeg)) (
if ((3 : Int32) - (q1 26 i_2.toNatClampNeg)) ≤ (q1 45 i_1.toNatClampNeg) then
some (.inr (((-1 : Int32), q1)))
else
gd (¬ (i_1 < 0 ∨ 2 ≤ i_1.toNatClampNeg)) (
st (((3 : Int32) * i_2) + (q1 45 i_1.toNatClampNeg)) fun x7 =>
gd (¬ (i_1 < 0 ∨ 2 ≤ i_1.toNatClampNeg)) (
gd (¬ (i_1 < 0 ∨ 2 ≤ i_1.toNatClampNeg)) (
cl (fX10_partOf q1 x7 (q1 46 i_1.toNatClampNeg) (q1 47 i_1.toNatClampNeg)) fun r8 =>
st r8 fun x10 =>
st (fun (y11 : Int32) => (st y11 fun x13 =>
gd (¬ (i_1 < 0 ∨ 2 ≤ i_1.toNatClampNeg)) (
gd (¬ (i_1 < 0 ∨ 2 ≤ i_1.toNatClampNeg)) (
st (pM q1 47 i_1.toNatClampNeg ((q1 47 i_1.toNatClampNeg) + (1 : Int32))) fun M14 =>
gd (¬ (i_1 < 0 ∨ 2 ≤ i_1.toNatClampNeg)) (
st (fun (S15 : zMs) => (gd (¬ (i_1 < 0 ∨ 2 ≤ i_1.toNatClampNeg)) (
gd (¬ (x7 < 0 ∨ 120 ≤ x7.toNatClampNeg)) (
st (fun (S17 : zMs) => (if x13 = (-1 : Int32) then
some (.inl (S17))
else
some (.inr ((x13, S17))) : Option ((zMs) ⊕ (Int32 × zMs)))) fun j18 =>
if (S15 46 i_1.toNatClampNeg) ≤ (S15 37 x7.toNatClampNeg) then
j18 S15
else
gd (¬ (i_1 < 0 ∨ 2 ≤ i_1.toNatClampNeg)) (
st (pM S15 46 i_1.toNatClampNeg (1 : Int32)) fun M19 =>
gd (¬ (i_1 < 0 ∨ 2 ≤ i_1.toNatClampNeg)) (
gd (¬ (i_1 < 0 ∨ 2 ≤ i_1.toNatClampNeg)) (
st (pM M19 45 i_1.toNatClampNeg ((M19 45 i_1.toNatClampNeg) + (1 : Int32))) fun M20 =>
j18 M20))))) : Option ((zMs) ⊕ (Int32 × zMs)))) fun j16 =>
if (M14 47 i_1.toNatClampNeg) = (10 : Int32) then
gd (¬ (i_1 < 0 ∨ 2 ≤ i_1.toNatClampNeg)) (
st (pM M14 47 i_1.toNatClampNeg (0 : Int32)) fun M21 =>
gd (¬ (i_1 < 0 ∨ 2 ≤ i_1.toNatClampNeg)) (
gd (¬ (i_1 < 0 ∨ 2 ≤ i_1.toNatClampNeg)) (
st (pM M21 46 i_1.toNatClampNeg ((M21 46 i_1.toNatClampNeg) + (1 : Int32))) fun M22 =>
j16 M22)))
else
j16 M14))) : Option ((zMs) ⊕ (Int32 × zMs)))) fun j12 =>
if x10 = 0 then
j12 (-1 : Int32)
else
gd (¬ (i_1 < 0 ∨ 2 ≤ i_1.toNatClampNeg)) (
gd (¬ (i_1 < 0 ∨ 2 ≤ i_1.toNatClampNeg)) (
j12 (((((x10 - x10 / (16 : Int32) * (16 : Int32)) - (1 : Int32)) + ((16 : Int32) * (q1 45 i_1.toNatClampNeg))) + ((256 : Int32) * (q1 46 i_1.toNatClampNeg))) + ((1048576 : Int32) * (x10 / (16 : Int32)))))))))))
section PN
variable {M M0 : zMs} {g b n w p : Nat}
theorem bX10_next_eq (M : zMs) (i_1 i_2 : Int32) : fX10_next M i_1 i_2 = lp (bX10_next i_1 i_2) 40000 M := rfl
def stp (M : zMs) (g b : Nat) : Nat := (M 37 (3 * g + b)).toNatClampNeg
theorem stp_ok (h : WM M) (hg : g < nG M) (hb : b < 3 - nL M g) : M 37 (3 * g + b) = nI (stp M g b) ∧ 1 ≤ stp M g b ∧ stp M g b ≤ 300 ∧ (∀ s, s < stp M g b → ∃ x y, x ≤ 8 ∧ y ≤ 8 ∧ M 38 (300 * (3 * g + b) + s) = nI (x + 9 * y)) ∧ ∀ k, k < 8 → rng 0 60 (M 39 (8 * (3 * g + b) + k)) := by
  obtain ⟨N, h1, h2, h3, h4, h5⟩ := (gm h hg).2.2.2.2.2.2 b hb
  have e : stp M g b = N := by unfold stp; rw [h3, nI_clamp (by omega)]
  rw [e]
  exact ⟨h3, h1, h2, h4, h5⟩
theorem pt_ok (h : WM M) (hg : g < nG M) (hb : b < 3 - nL M g) (hn : 1 ≤ n) (hN : n ≤ stp M g b) (hw : w < 10) : pt M (3 * g + b) n w % 16 ≤ 8 ∧ pt M (3 * g + b) n w / 16 ≤ 60 ∧ (pt M (3 * g + b) n w ≠ 0 → 1 ≤ pt M (3 * g + b) n w % 16) := by
  obtain ⟨-, -, -, h4, h5⟩ := stp_ok h hg hb
  obtain ⟨x, y, hx, hy, e⟩ := h4 (n - 1) (by omega)
  have i38 : 300 * (3 * g + b) + n - 1 = 300 * (3 * g + b) + (n - 1) := by omega
  unfold pt
  rw [i38, e, nI_clamp (by omega)]
  by_cases w0 : w = 0
  · rw [if_pos w0]; omega
  · rw [if_neg w0]
    by_cases w1 : w = 1
    · rw [if_pos w1]; omega
    · rw [if_neg w1]
      obtain ⟨m, -, hm, e9⟩ := h5 (w - 2) (by omega)
      rw [show 8 * (3 * g + b) + w - 2 = 8 * (3 * g + b) + (w - 2) by omega, e9, nI_clamp (by omega)]
      by_cases hc : n % 10 = 0 ∧ m ≠ 0
      · rw [if_pos hc]; omega
      · rw [if_neg hc]; omega
theorem partOf_eq (h : WM M0) (q38 : M 38 = M0 38) (q39 : M 39 = M0 39) (hg : g < nG M0) (hb : b < 3 - nL M0 g) (hn : 1 ≤ n) (hN : n ≤ stp M0 g b) (hw : w < 10) : fX10_partOf M (nI (3 * g + b)) (nI n) (nI w) = some (nI (pt M0 (3 * g + b) n w)) := by
  obtain ⟨-, -, h3, h4, h5⟩ := stp_ok h hg hb
  have hg4 := nG40 h
  obtain ⟨x, y, hx, hy, e⟩ := h4 (n - 1) (by omega)
  have i38 : M0 38 (300 * (3 * g + b) + n - 1) = nI (x + 9 * y) := by
    rw [← e]; congr 1; omega
  unfold fX10_partOf pt
  by_cases w0 : w = 0
  · simp (disch := omega) only [Nat.add_sub_cancel, nI_0, c2I, c3I, c4I, c6I, c8I, c9I, c10I, c15I, c16I, c20I, c30I, c40I, c48I, c60I, c100I, c120I, c159I, c160I, c239I, c240I, c256I, c300I, c318I, c320I, c720I, c840I, c960I, c2520I, c36000I, c1048576I, nI_1, nI_add, pk_mul, nI_pred1, nI_pm1, pk_sub, pk_div, nI_clamp, nI_lz, nI_leI, nI_ltI, nI_eq, nI_z, nI_lez, nI_gez, nI_gtz, nI_m, nI_m2, nI_lem, nI_ltm, nleF, leT, ltT, ltF, eqT, eqF, false_or, or_false, not_false_eq_true, not_true_eq_false, gd_T, st_q, cl_q, cl2_q, cxr_q, cxl_q, i10, if_true, if_false, Bool.false_eq_true, q38, i38, w0]
    congr 2
    omega
  · by_cases w1 : w = 1
    · simp (disch := omega) only [Nat.add_sub_cancel, nI_0, c2I, c3I, c4I, c6I, c8I, c9I, c10I, c15I, c16I, c20I, c30I, c40I, c48I, c60I, c100I, c120I, c159I, c160I, c239I, c240I, c256I, c300I, c318I, c320I, c720I, c840I, c960I, c2520I, c36000I, c1048576I, nI_1, nI_add, pk_mul, nI_pred1, nI_pm1, pk_sub, pk_div, nI_clamp, nI_lz, nI_leI, nI_ltI, nI_eq, nI_z, nI_lez, nI_gez, nI_gtz, nI_m, nI_m2, nI_lem, nI_ltm, nleF, leT, ltT, ltF, eqT, eqF, false_or, or_false, not_false_eq_true, not_true_eq_false, gd_T, st_q, cl_q, cl2_q, cxr_q, cxl_q, i10, if_true, if_false, Bool.false_eq_true, q38, i38, w1]
    · obtain ⟨m, -, hm, e9⟩ := h5 (w - 2) (by omega)
      have i39 : M0 39 (8 * (3 * g + b) + w - 2) = nI m := by
        rw [← e9]; congr 1; omega
      by_cases h10 : n % 10 = 0
      · by_cases hm0 : m = 0
        · simp (disch := omega) only [Nat.add_sub_cancel, nI_0, c2I, c3I, c4I, c6I, c8I, c9I, c10I, c15I, c16I, c20I, c30I, c40I, c48I, c60I, c100I, c120I, c159I, c160I, c239I, c240I, c256I, c300I, c318I, c320I, c720I, c840I, c960I, c2520I, c36000I, c1048576I, nI_1, nI_add, pk_mul, nI_pred1, nI_pm1, pk_sub, pk_div, nI_clamp, nI_lz, nI_leI, nI_ltI, nI_eq, nI_z, nI_lez, nI_gez, nI_gtz, nI_m, nI_m2, nI_lem, nI_ltm, nleF, leT, ltT, ltF, eqT, eqF, false_or, or_false, not_false_eq_true, not_true_eq_false, gd_T, st_q, cl_q, cl2_q, cxr_q, cxl_q, i10, if_true, if_false, Bool.false_eq_true, q38, i38, q39, i39, ne_eq, and_false]
        · simp (disch := omega) only [Nat.add_sub_cancel, nI_0, c2I, c3I, c4I, c6I, c8I, c9I, c10I, c15I, c16I, c20I, c30I, c40I, c48I, c60I, c100I, c120I, c159I, c160I, c239I, c240I, c256I, c300I, c318I, c320I, c720I, c840I, c960I, c2520I, c36000I, c1048576I, nI_1, nI_add, pk_mul, nI_pred1, nI_pm1, pk_sub, pk_div, nI_clamp, nI_lz, nI_leI, nI_ltI, nI_eq, nI_z, nI_lez, nI_gez, nI_gtz, nI_m, nI_m2, nI_lem, nI_ltm, nleF, leT, ltT, ltF, eqT, eqF, false_or, or_false, not_false_eq_true, not_true_eq_false, gd_T, st_q, cl_q, cl2_q, cxr_q, cxl_q, i10, if_true, if_false, Bool.false_eq_true, q38, i38, q39, i39, ne_eq, and_true, and_self]
      · simp (disch := omega) only [Nat.add_sub_cancel, nI_0, c2I, c3I, c4I, c6I, c8I, c9I, c10I, c15I, c16I, c20I, c30I, c40I, c48I, c60I, c100I, c120I, c159I, c160I, c239I, c240I, c256I, c300I, c318I, c320I, c720I, c840I, c960I, c2520I, c36000I, c1048576I, nI_1, nI_add, pk_mul, nI_pred1, nI_pm1, pk_sub, pk_div, nI_clamp, nI_lz, nI_leI, nI_ltI, nI_eq, nI_z, nI_lez, nI_gez, nI_gtz, nI_m, nI_m2, nI_lem, nI_ltm, nleF, leT, ltT, ltF, eqT, eqF, false_or, or_false, not_false_eq_true, not_true_eq_false, gd_T, st_q, cl_q, cl2_q, cxr_q, cxl_q, i10, if_true, if_false, Bool.false_eq_true, q38, i38, q39, i39, ne_eq, false_and]
/-- where the walk stands next -/
def nxp (N b n w b1 n1 w1 : Nat) : Prop := (w + 1 < 10 ∧ b1 = b ∧ n1 = n ∧ w1 = w + 1) ∨ (w + 1 = 10 ∧ n + 1 ≤ N ∧ b1 = b ∧ n1 = n + 1 ∧ w1 = 0) ∨ (w + 1 = 10 ∧ n = N ∧ b1 = b + 1 ∧ n1 = 1 ∧ w1 = 0)
def wkF (M M1 : zMs) (p : Nat) : Prop := (∀ k, k ≠ 45 → k ≠ 46 → k ≠ 47 → M1 k = M k) ∧ ∀ k i, i ≠ p → M1 k i = M k i
theorem wkF_t {M M1 M2 : zMs} {p : Nat} (h : wkF M M1 p) (h1 : wkF M1 M2 p) : wkF M M2 p := ⟨fun k a b c => (h1.1 k a b c).trans (h.1 k a b c), fun k i hi => (h1.2 k i hi).trans (h.2 k i hi)⟩
theorem wkF_p {M : zMs} {k p : Nat} (hk : k = 45 ∨ k = 46 ∨ k = 47) (v : Int32) : wkF M (pM M k p v) p := ⟨fun k1 a b c => pMn (by omega) p v, fun k1 i hi => pMi hi k k1 v⟩
theorem wkF_eqM {M M1 : zMs} {p : Nat} (h : wkF M M1 p) : eqM M M1 := fun k hk => h.1 k (by unfold visR at hk; omega) (by unfold visR at hk; omega) (by unfold visR at hk; omega)
theorem nxb (h : WM M0) (he : eqM M0 M) (hg : g < nG M0) (hp : p < 2) (hb : b < 3 - nL M0 g) (hn : 1 ≤ n) (hN : n ≤ stp M0 g b) (hw : w < 10) (h45 : M 45 p = nI b) (h46 : M 46 p = nI n) (h47 : M 47 p = nI w) :
    ∃ M1 b1 n1 w1, bX10_next (nI p) (nI g) M = some (if pt M0 (3 * g + b) n w = 0 then .inl M1 else .inr (nI (ptE b n (pt M0 (3 * g + b) n w)), M1)) ∧ nxp (stp M0 g b) b n w b1 n1 w1 ∧ M1 45 p = nI b1 ∧ M1 46 p = nI n1 ∧ M1 47 p = nI w1 ∧ wkF M M1 p := by
  have hg4 := nG40 h
  have hL3 := nL3 h hg
  obtain ⟨p1, p2, p3⟩ := pt_ok h hg hb hn hN hw
  obtain ⟨e37, -, s3, -, -⟩ := stp_ok h hg hb
  have r (k : Nat) (h0 : 0 < k) (h1 : k < 40) : M k = M0 k := he k (Or.inl ⟨h0, h1⟩)
  have hpart : fX10_partOf M (nI (3 * g + b)) (nI n) (nI w) = some (nI (pt M0 (3 * g + b) n w)) := partOf_eq h (r 38 (by omega) (by omega)) (r 39 (by omega) (by omega)) hg hb hn hN hw
  have h26 : M 26 g = nI (nL M0 g) := by rw [r 26 (by omega) (by omega)]; exact nL_e h hg
  have h37 : M 37 (3 * g + b) = nI (stp M0 g b) := by rw [r 37 (by omega) (by omega)]; exact e37
  generalize pt M0 (3 * g + b) n w = v at *
  have hE : v ≠ 0 → v - v / 16 * 16 - 1 + 16 * b + 256 * n + 1048576 * (v / 16) = ptE b n v := by
    intro hv
    unfold ptE
    have := p3 hv
    omega
  have hE2 : v ≠ 0 → v - v / 16 * 16 - 1 + 16 * b + 256 * n + 1048576 * (v / 16) < 2 ^ 31 := fun _ => by omega
  unfold bX10_next nxp
  by_cases w9 : w + 1 = 10
  · by_cases nN : n + 1 ≤ stp M0 g b
    · refine ⟨pM (pM (pM M 47 p (nI 10)) 47 p 0) 46 p (nI (n + 1)), b, n + 1, 0, ?_, Or.inr (Or.inl ⟨w9, nN, rfl, rfl, rfl⟩), ?_, ?_, ?_, ?_⟩
      · by_cases v0 : v = 0
        · simp (disch := omega) only [Nat.add_sub_cancel, nI_0, c2I, c3I, c4I, c6I, c8I, c9I, c10I, c15I, c16I, c20I, c30I, c40I, c48I, c60I, c100I, c120I, c159I, c160I, c239I, c240I, c256I, c300I, c318I, c320I, c720I, c840I, c960I, c2520I, c36000I, c1048576I, nI_1, nI_add, pk_mul, nI_pred1, nI_pm1, pk_sub, pk_div, nI_clamp, nI_lz, nI_leI, nI_ltI, nI_eq, nI_z, nI_lez, nI_gez, nI_gtz, nI_m, nI_m2, nI_lem, nI_ltm, nleF, leT, ltT, ltF, eqT, eqF, false_or, or_false, not_false_eq_true, not_true_eq_false, gd_T, st_q, cl_q, cl2_q, cxr_q, cxl_q, i10, if_true, if_false, Bool.false_eq_true, pM_s, pMn, h26, h45, h46, h47, h37, hpart, w9]
        · have := p3 v0
          have := hE2 v0
          rw [← hE v0]
          simp (disch := omega) only [Nat.add_sub_cancel, nI_0, c2I, c3I, c4I, c6I, c8I, c9I, c10I, c15I, c16I, c20I, c30I, c40I, c48I, c60I, c100I, c120I, c159I, c160I, c239I, c240I, c256I, c300I, c318I, c320I, c720I, c840I, c960I, c2520I, c36000I, c1048576I, nI_1, nI_add, pk_mul, nI_pred1, nI_pm1, pk_sub, pk_div, nI_clamp, nI_lz, nI_leI, nI_ltI, nI_eq, nI_z, nI_lez, nI_gez, nI_gtz, nI_m, nI_m2, nI_lem, nI_ltm, nleF, leT, ltT, ltF, eqT, eqF, false_or, or_false, not_false_eq_true, not_true_eq_false, gd_T, st_q, cl_q, cl2_q, cxr_q, cxl_q, i10, if_true, if_false, Bool.false_eq_true, pM_s, pMn, h26, h45, h46, h47, h37, hpart, w9]
      · simp (disch := omega) only [pM_s, pMn, h45]
      · simp (disch := omega) only [pM_s, pMn]
      · simp (disch := omega) only [pM_s, pMn, nI_0]
      · exact wkF_t (wkF_t (wkF_p (by omega) _) (wkF_p (by omega) _)) (wkF_p (by omega) _)
    · refine ⟨pM (pM (pM (pM (pM M 47 p (nI 10)) 47 p 0) 46 p (nI (n + 1))) 46 p 1) 45 p (nI (b + 1)), b + 1, 1, 0, ?_, Or.inr (Or.inr ⟨w9, by omega, rfl, rfl, rfl⟩), ?_, ?_, ?_, ?_⟩
      · by_cases v0 : v = 0
        · simp (disch := omega) only [Nat.add_sub_cancel, nI_0, c2I, c3I, c4I, c6I, c8I, c9I, c10I, c15I, c16I, c20I, c30I, c40I, c48I, c60I, c100I, c120I, c159I, c160I, c239I, c240I, c256I, c300I, c318I, c320I, c720I, c840I, c960I, c2520I, c36000I, c1048576I, nI_1, nI_add, pk_mul, nI_pred1, nI_pm1, pk_sub, pk_div, nI_clamp, nI_lz, nI_leI, nI_ltI, nI_eq, nI_z, nI_lez, nI_gez, nI_gtz, nI_m, nI_m2, nI_lem, nI_ltm, nleF, leT, ltT, ltF, eqT, eqF, false_or, or_false, not_false_eq_true, not_true_eq_false, gd_T, st_q, cl_q, cl2_q, cxr_q, cxl_q, i10, if_true, if_false, Bool.false_eq_true, pM_s, pMn, h26, h45, h46, h47, h37, hpart, w9]
        · have := p3 v0
          have := hE2 v0
          rw [← hE v0]
          simp (disch := omega) only [Nat.add_sub_cancel, nI_0, c2I, c3I, c4I, c6I, c8I, c9I, c10I, c15I, c16I, c20I, c30I, c40I, c48I, c60I, c100I, c120I, c159I, c160I, c239I, c240I, c256I, c300I, c318I, c320I, c720I, c840I, c960I, c2520I, c36000I, c1048576I, nI_1, nI_add, pk_mul, nI_pred1, nI_pm1, pk_sub, pk_div, nI_clamp, nI_lz, nI_leI, nI_ltI, nI_eq, nI_z, nI_lez, nI_gez, nI_gtz, nI_m, nI_m2, nI_lem, nI_ltm, nleF, leT, ltT, ltF, eqT, eqF, false_or, or_false, not_false_eq_true, not_true_eq_false, gd_T, st_q, cl_q, cl2_q, cxr_q, cxl_q, i10, if_true, if_false, Bool.false_eq_true, pM_s, pMn, h26, h45, h46, h47, h37, hpart, w9]
      · simp (disch := omega) only [pM_s, pMn]
      · simp (disch := omega) only [pM_s, pMn]
        rfl
      · simp (disch := omega) only [pM_s, pMn, nI_0]
      · exact wkF_t (wkF_t (wkF_t (wkF_t (wkF_p (by omega) _) (wkF_p (by omega) _)) (wkF_p (by omega) _)) (wkF_p (by omega) _)) (wkF_p (by omega) _)
  · refine ⟨pM M 47 p (nI (w + 1)), b, n, w + 1, ?_, Or.inl ⟨by omega, rfl, rfl, rfl⟩, ?_, ?_, ?_, wkF_p (by omega) _⟩
    · by_cases v0 : v = 0
      · simp (disch := omega) only [Nat.add_sub_cancel, nI_0, c2I, c3I, c4I, c6I, c8I, c9I, c10I, c15I, c16I, c20I, c30I, c40I, c48I, c60I, c100I, c120I, c159I, c160I, c239I, c240I, c256I, c300I, c318I, c320I, c720I, c840I, c960I, c2520I, c36000I, c1048576I, nI_1, nI_add, pk_mul, nI_pred1, nI_pm1, pk_sub, pk_div, nI_clamp, nI_lz, nI_leI, nI_ltI, nI_eq, nI_z, nI_lez, nI_gez, nI_gtz, nI_m, nI_m2, nI_lem, nI_ltm, nleF, leT, ltT, ltF, eqT, eqF, false_or, or_false, not_false_eq_true, not_true_eq_false, gd_T, st_q, cl_q, cl2_q, cxr_q, cxl_q, i10, if_true, if_false, Bool.false_eq_true, pM_s, pMn, h26, h45, h46, h47, h37, hpart]
      · have := p3 v0
        have := hE2 v0
        rw [← hE v0]
        simp (disch := omega) only [Nat.add_sub_cancel, nI_0, c2I, c3I, c4I, c6I, c8I, c9I, c10I, c15I, c16I, c20I, c30I, c40I, c48I, c60I, c100I, c120I, c159I, c160I, c239I, c240I, c256I, c300I, c318I, c320I, c720I, c840I, c960I, c2520I, c36000I, c1048576I, nI_1, nI_add, pk_mul, nI_pred1, nI_pm1, pk_sub, pk_div, nI_clamp, nI_lz, nI_leI, nI_ltI, nI_eq, nI_z, nI_lez, nI_gez, nI_gtz, nI_m, nI_m2, nI_lem, nI_ltm, nleF, leT, ltT, ltF, eqT, eqF, false_or, or_false, not_false_eq_true, not_true_eq_false, gd_T, st_q, cl_q, cl2_q, cxr_q, cxl_q, i10, if_true, if_false, Bool.false_eq_true, pM_s, pMn, h26, h45, h46, h47, h37, hpart]
    · simp (disch := omega) only [pM_s, pMn, h45]
    · simp (disch := omega) only [pM_s, pMn, h46]
    · simp (disch := omega) only [pM_s, pMn]
/-- what the log still holds, from a place on -/
def qW (M : zMs) (ball bi n w : Nat) : List Nat := (List.range' w (10 - w)).filterMap (fun w => if pt M ball n w = 0 then none else some (ptE bi n (pt M ball n w)))
def qN (M : zMs) (g b n : Nat) : List Nat := (List.range' n (stp M g b + 1 - n)).flatMap (fun n => entS M (3 * g + b) b n)
def qB (M : zMs) (g b : Nat) : List Nat := (List.range' b (3 - nL M g - b)).flatMap (fun bi => entB M (3 * g + bi) bi)
def rem (M : zMs) (g b n w : Nat) : List Nat := if b < 3 - nL M g then qW M (3 * g + b) b n w ++ (qN M g b (n + 1) ++ qB M g (b + 1)) else []
theorem entS_q (M : zMs) (ball bi n : Nat) : entS M ball bi n = qW M ball bi n 0 := by
  unfold entS qW
  rw [List.range_eq_range']
theorem entB_q (M : zMs) (g b : Nat) : entB M (3 * g + b) b = qN M g b 1 := by
  unfold entB qN
  show (List.range (stp M g b)).flatMap _ = _
  rw [Nat.add_sub_cancel, List.range'_eq_map_range, List.flatMap_map]
  congr 1
  funext k
  rw [Nat.add_comm 1 k]
theorem ents_q (M : zMs) (g : Nat) : ents M g = qB M g 0 := by
  unfold ents qB
  rw [List.range_eq_range']
  rfl
theorem qN_c {M : zMs} {g b n : Nat} (h : n ≤ stp M g b) : qN M g b n = qW M (3 * g + b) b n 0 ++ qN M g b (n + 1) := by
  unfold qN
  rw [show stp M g b + 1 - n = (stp M g b + 1 - (n + 1)) + 1 by omega, List.range'_succ, List.flatMap_cons, entS_q]
theorem qN_e {M : zMs} {g b n : Nat} (h : stp M g b < n) : qN M g b n = [] := by
  unfold qN
  rw [show stp M g b + 1 - n = 0 by omega]
  rfl
theorem qB_c {M : zMs} {g b : Nat} (h : b < 3 - nL M g) : qB M g b = qN M g b 1 ++ qB M g (b + 1) := by
  unfold qB
  rw [show 3 - nL M g - b = (3 - nL M g - (b + 1)) + 1 by omega, List.range'_succ, List.flatMap_cons, entB_q]
theorem qB_e {M : zMs} {g b : Nat} (h : 3 - nL M g ≤ b) : qB M g b = [] := by
  unfold qB
  rw [show 3 - nL M g - b = 0 by omega]
  rfl
theorem qW_c {M : zMs} {ball bi n w : Nat} (h : w < 10) : qW M ball bi n w = (if pt M ball n w = 0 then [] else [ptE bi n (pt M ball n w)]) ++ qW M ball bi n (w + 1) := by
  unfold qW
  rw [show 10 - w = (10 - (w + 1)) + 1 by omega, List.range'_succ, List.filterMap_cons]
  by_cases e : pt M ball n w = 0
  · simp only [if_pos e, List.nil_append]
  · simp only [if_neg e, List.cons_append, List.nil_append]
theorem qW_e {M : zMs} {ball bi n : Nat} : qW M ball bi n 10 = [] := rfl
theorem rem_0 (h : WM M) (hg : g < nG M) : rem M g 0 1 0 = ents M g := by
  rw [ents_q]
  unfold rem
  by_cases h0 : 0 < 3 - nL M g
  · obtain ⟨-, s1, -⟩ := stp_ok h hg h0
    rw [if_pos h0, qB_c h0, qN_c s1, List.append_assoc]
  · rw [if_neg h0, qB_e (by omega)]
theorem rem_s (h : WM M) (hg : g < nG M) (hb : b < 3 - nL M g) (hN : n ≤ stp M g b) (hw : w < 10) {b1 n1 w1 : Nat} (hx : nxp (stp M g b) b n w b1 n1 w1) : rem M g b n w = (if pt M (3 * g + b) n w = 0 then [] else [ptE b n (pt M (3 * g + b) n w)]) ++ rem M g b1 n1 w1 := by
  have e : rem M g b n w = qW M (3 * g + b) b n w ++ (qN M g b (n + 1) ++ qB M g (b + 1)) := if_pos hb
  rw [e, qW_c hw, List.append_assoc]
  congr 1
  rcases hx with ⟨c, rfl, rfl, rfl⟩ | ⟨c, c2, rfl, rfl, rfl⟩ | ⟨c, rfl, rfl, rfl, rfl⟩
  · unfold rem
    rw [if_pos hb]
  · unfold rem
    rw [if_pos hb, c, qW_e, List.nil_append, qN_c c2, List.append_assoc]
  · rw [c, qW_e, List.nil_append, qN_e (Nat.lt_succ_self _), List.nil_append]
    unfold rem
    by_cases hb1 : b + 1 < 3 - nL M g
    · obtain ⟨-, s1, -⟩ := stp_ok h hg hb1
      rw [if_pos hb1, qB_c hb1, qN_c s1, List.append_assoc]
    · rw [if_neg hb1, qB_e (by omega)]
/-- the walk p stands where r is left -/
def At (M0 M : zMs) (g p : Nat) (r : List Nat) : Prop := ∃ b n w, M 45 p = nI b ∧ M 46 p = nI n ∧ M 47 p = nI w ∧ b ≤ 3 ∧ (b < 3 - nL M0 g → 1 ≤ n ∧ n ≤ stp M0 g b ∧ w < 10) ∧ rem M0 g b n w = r
def hdE (r : List Nat) : Int32 := match r with
  | [] => -1
  | e :: _ => nI e
theorem next_end (h : WM M0) (hg : g < nG M0) (hp : p < 2) {fuel : Nat} (hf : 0 < fuel) (he : eqM M0 M) (h45 : M 45 p = nI b) (h46 : M 46 p = nI n) (h47 : M 47 p = nI w) (hb3 : b ≤ 3) (hb : ¬ b < 3 - nL M0 g) :
    ∃ M1, lp (bX10_next (nI p) (nI g)) fuel M = some (hdE (rem M0 g b n w), M1) ∧ At M0 M1 g p (rem M0 g b n w).tail ∧ wkF M M1 p := by
  have hg4 := nG40 h
  have hL3 := nL3 h hg
  have h26 : M 26 g = nI (nL M0 g) := by rw [he 26 (by unfold visR; omega)]; exact nL_e h hg
  have e : rem M0 g b n w = [] := if_neg hb
  obtain ⟨f, rfl⟩ : ∃ f, fuel = f + 1 := ⟨fuel - 1, by omega⟩
  have eb : bX10_next (nI p) (nI g) M = some (.inr (-1, M)) := by
    unfold bX10_next
    simp (disch := omega) only [Nat.add_sub_cancel, nI_0, c2I, c3I, c4I, c6I, c8I, c9I, c10I, c15I, c16I, c20I, c30I, c40I, c48I, c60I, c100I, c120I, c159I, c160I, c239I, c240I, c256I, c300I, c318I, c320I, c720I, c840I, c960I, c2520I, c36000I, c1048576I, nI_1, nI_add, pk_mul, nI_pred1, nI_pm1, pk_sub, pk_div, nI_clamp, nI_lz, nI_leI, nI_ltI, nI_eq, nI_z, nI_lez, nI_gez, nI_gtz, nI_m, nI_m2, nI_lem, nI_ltm, nleF, leT, ltT, ltF, eqT, eqF, false_or, or_false, not_false_eq_true, not_true_eq_false, gd_T, st_q, cl_q, cl2_q, cxr_q, cxl_q, i10, if_true, if_false, Bool.false_eq_true, h26, h45]
  rw [lp_e _ f eb, e]
  exact ⟨M, rfl, ⟨b, n, w, h45, h46, h47, hb3, fun q => absurd q hb, e⟩, fun _ _ _ _ => rfl, fun _ _ _ => rfl⟩
set_option maxRecDepth 20000 in
theorem next_lp (h : WM M0) (hg : g < nG M0) (hp : p < 2) : ∀ (d fuel : Nat) (M : zMs) (b n w : Nat), (3 - b) * 3010 ≤ d + (10 * n + w) → d < fuel → eqM M0 M → M 45 p = nI b → M 46 p = nI n → M 47 p = nI w → b ≤ 3 → (b < 3 - nL M0 g → 1 ≤ n ∧ n ≤ stp M0 g b ∧ w < 10) →
    ∃ M1, lp (bX10_next (nI p) (nI g)) fuel M = some (hdE (rem M0 g b n w), M1) ∧ At M0 M1 g p (rem M0 g b n w).tail ∧ wkF M M1 p := by
  intro d
  induction d with
  | zero =>
    intro fuel M b n w hd hf he h45 h46 h47 hb3 hv
    have hb : ¬ b < 3 - nL M0 g := by
      intro hb
      obtain ⟨v1, v2, v3⟩ := hv hb
      obtain ⟨-, -, s3, -⟩ := stp_ok h hg hb
      omega
    exact next_end h hg hp hf he h45 h46 h47 hb3 hb
  | succ d ih =>
    intro fuel M b n w hd hf he h45 h46 h47 hb3 hv
    by_cases hb : b < 3 - nL M0 g
    · obtain ⟨v1, v2, v3⟩ := hv hb
      obtain ⟨-, -, s3, -⟩ := stp_ok h hg hb
      have hL3 := nL3 h hg
      obtain ⟨M1, b1, n1, w1, eb, hx, a45, a46, a47, hF⟩ := nxb h he hg hp hb v1 v2 v3 h45 h46 h47
      obtain ⟨f, rfl⟩ : ∃ f, fuel = f + 1 := ⟨fuel - 1, by omega⟩
      have hr := rem_s h hg hb v2 v3 hx
      have hb1 : b1 ≤ 3 ∧ (b1 < 3 - nL M0 g → 1 ≤ n1 ∧ n1 ≤ stp M0 g b1 ∧ w1 < 10) ∧ (3 - b1) * 3010 ≤ d + (10 * n1 + w1) := by
        rcases hx with ⟨c, rfl, rfl, rfl⟩ | ⟨c, c2, rfl, rfl, rfl⟩ | ⟨c, rfl, rfl, rfl, rfl⟩
        · exact ⟨hb3, fun _ => ⟨v1, v2, by omega⟩, by omega⟩
        · exact ⟨hb3, fun _ => ⟨by omega, c2, by omega⟩, by omega⟩
        · refine ⟨by omega, fun hb1 => ?_, by omega⟩
          obtain ⟨-, s1, -⟩ := stp_ok h hg hb1
          exact ⟨Nat.le_refl _, s1, by omega⟩
      by_cases v0 : pt M0 (3 * g + b) n w = 0
      · rw [if_pos v0] at eb hr
        rw [List.nil_append] at hr
        rw [lp_s _ f eb, hr]
        obtain ⟨M2, e2, t2, F2⟩ := ih f M1 b1 n1 w1 hb1.2.2 (by omega) (eqM_t he (wkF_eqM hF)) a45 a46 a47 hb1.1 hb1.2.1
        exact ⟨M2, e2, t2, wkF_t hF F2⟩
      · rw [if_neg v0] at eb hr
        rw [List.cons_append, List.nil_append] at hr
        rw [lp_e _ f eb, hr]
        exact ⟨M1, rfl, ⟨b1, n1, w1, a45, a46, a47, hb1.1, hb1.2.1, rfl⟩, hF⟩
    · exact next_end h hg hp (by omega) he h45 h46 h47 hb3 hb
end PN
