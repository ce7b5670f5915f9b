/-! the next order: the class's, the reference's -/
def bN9_a (S : zSt) : (Int32) → Option ((Int32) ⊕ (Int32 × zSt)) := fun (q3 : (Int32)) =>
st (fun (u_ : Unit) => (if 0 ≤ q3 then
st ((if (6 : Int32) < (zI S (5, 0, 0) 3) then (6 : Int32) else (zI S (5, 0, 0) 3)) - (1 : Int32)) fun x11 =>
st x11 fun x12 =>
lp (fun (q13 : (Int32)) => (st (fun (u_ : Unit) => (cl (fX4_swapOrder S q3 q13) fun S22 =>
st (q3 + (1 : Int32)) fun x23 =>
st x11 fun x24 =>
lp (fun (q25 : (Int32 × Int32 × zSt)) => (if q25.2.1 ≤ q25.1 then
some (.inr (.inr (.inr (((1 : Int32), q25.2.2)))))
else
cl (fX4_swapOrder q25.2.2 q25.1 q25.2.1) fun S33 =>
st (q25.1 + (1 : Int32)) fun x34 =>
st (q25.2.1 + (-1 : Int32)) fun x35 =>
some (.inl (x34, x35, S33)) : Option ((Int32 × Int32 × zSt) ⊕ ((Int32) ⊕ ((Int32) ⊕ (Int32 × zSt)))))) 40000 (x23, x24, S22) : Option ((Int32) ⊕ ((Int32) ⊕ (Int32 × zSt))))) fun j19 =>
if q13 ≤ q3 then
j19 ()
else
gd (¬ (q13 < 0 ∨ 6 ≤ q13.toNatClampNeg)) (
gd (¬ (q3 < 0 ∨ 6 ≤ q3.toNatClampNeg)) (
if (zI S (18, 0, 0) q3.toNatClampNeg) ≤ (zI S (18, 0, 0) q13.toNatClampNeg) then
j19 ()
else
st (q13 + (-1 : Int32)) fun x38 =>
some (.inl (x38)))) : Option ((Int32) ⊕ ((Int32) ⊕ (Int32 × zSt))))) 40000 (x12)
else
some (.inr (((0 : Int32), S))) : Option ((Int32) ⊕ (Int32 × zSt)))) fun j9 =>
if q3 < 0 then
j9 ()
else
gd (¬ (q3 < 0 ∨ 6 ≤ q3.toNatClampNeg)) (
gd (¬ ((q3 + (1 : Int32)) < 0 ∨ 6 ≤ (q3 + (1 : Int32)).toNatClampNeg)) (
if (zI S (18, 0, 0) q3.toNatClampNeg) ≤ (zI S (18, 0, 0) (q3 + (1 : Int32)).toNatClampNeg) then
j9 ()
else
st (q3 + (-1 : Int32)) fun x41 =>
some (.inl (x41))))
def bN9_b (S : zSt) (q3 : Int32) (x11 : Int32) : (Int32) → Option ((Int32) ⊕ ((Int32) ⊕ (Int32 × zSt))) := fun (q13 : (Int32)) =>
st (fun (u_ : Unit) => (cl (fX4_swapOrder S q3 q13) fun S22 =>
st (q3 + (1 : Int32)) fun x23 =>
st x11 fun x24 =>
lp (fun (q25 : (Int32 × Int32 × zSt)) => (if q25.2.1 ≤ q25.1 then
some (.inr (.inr (.inr (((1 : Int32), q25.2.2)))))
else
cl (fX4_swapOrder q25.2.2 q25.1 q25.2.1) fun S33 =>
st (q25.1 + (1 : Int32)) fun x34 =>
st (q25.2.1 + (-1 : Int32)) fun x35 =>
some (.inl (x34, x35, S33)) : Option ((Int32 × Int32 × zSt) ⊕ ((Int32) ⊕ ((Int32) ⊕ (Int32 × zSt)))))) 40000 (x23, x24, S22) : Option ((Int32) ⊕ ((Int32) ⊕ (Int32 × zSt))))) fun j19 =>
if q13 ≤ q3 then
j19 ()
else
gd (¬ (q13 < 0 ∨ 6 ≤ q13.toNatClampNeg)) (
gd (¬ (q3 < 0 ∨ 6 ≤ q3.toNatClampNeg)) (
if (zI S (18, 0, 0) q3.toNatClampNeg) ≤ (zI S (18, 0, 0) q13.toNatClampNeg) then
j19 ()
else
st (q13 + (-1 : Int32)) fun x38 =>
some (.inl (x38))))
def bN9_c (_u : Unit) : (Int32 × Int32 × zSt) → Option ((Int32 × Int32 × zSt) ⊕ ((Int32) ⊕ ((Int32) ⊕ (Int32 × zSt)))) := fun (q25 : (Int32 × Int32 × zSt)) =>
if q25.2.1 ≤ q25.1 then
some (.inr (.inr (.inr (((1 : Int32), q25.2.2)))))
else
cl (fX4_swapOrder q25.2.2 q25.1 q25.2.1) fun S33 =>
st (q25.1 + (1 : Int32)) fun x34 =>
st (q25.2.1 + (-1 : Int32)) fun x35 =>
some (.inl (x34, x35, S33))
def bN10_a (M : zMs) : (Int32) → Option ((Int32) ⊕ (Int32 × zMs)) := fun (q2 : (Int32)) =>
st (fun (u_ : Unit) => (if 0 ≤ q2 then
st ((M 51 0) - (1 : Int32)) fun x9 =>
lp (fun (q10 : (Int32)) => (gd (¬ (q10 < 0 ∨ 6 ≤ q10.toNatClampNeg)) (
gd (¬ (q2 < 0 ∨ 6 ≤ q2.toNatClampNeg)) (
if (M 52 q2.toNatClampNeg) ≤ (M 52 q10.toNatClampNeg) then
cl (fX10_swap M q2 q10) fun M18 =>
st (q2 + (1 : Int32)) fun x19 =>
st ((M18 51 0) - (1 : Int32)) fun x20 =>
lp (fun (q21 : (Int32 × Int32 × zMs)) => (if q21.2.1 ≤ q21.1 then
some (.inr (.inr (.inr (((1 : Int32), q21.2.2)))))
else
cl (fX10_swap q21.2.2 q21.1 q21.2.1) fun M29 =>
st (q21.1 + (1 : Int32)) fun x30 =>
st (q21.2.1 + (-1 : Int32)) fun x31 =>
some (.inl (x30, x31, M29)) : Option ((Int32 × Int32 × zMs) ⊕ ((Int32) ⊕ ((Int32) ⊕ (Int32 × zMs)))))) 40000 (x19, x20, M18)
else
st (q10 + (-1 : Int32)) fun x32 =>
some (.inl (x32)))) : Option ((Int32) ⊕ ((Int32) ⊕ (Int32 × zMs))))) 40000 (x9)
else
some (.inr (((0 : Int32), M))) : Option ((Int32) ⊕ (Int32 × zMs)))) fun j8 =>
if q2 < 0 then
j8 ()
else
gd (¬ (q2 < 0 ∨ 6 ≤ q2.toNatClampNeg)) (
gd (¬ ((q2 + (1 : Int32)) < 0 ∨ 6 ≤ (q2 + (1 : Int32)).toNatClampNeg)) (
if (M 52 q2.toNatClampNeg) ≤ (M 52 (q2 + (1 : Int32)).toNatClampNeg) then
j8 ()
else
st (q2 + (-1 : Int32)) fun x33 =>
some (.inl (x33))))
def bN10_b (M : zMs) (q2 : Int32) : (Int32) → Option ((Int32) ⊕ ((Int32) ⊕ (Int32 × zMs))) := fun (q10 : (Int32)) =>
gd (¬ (q10 < 0 ∨ 6 ≤ q10.toNatClampNeg)) (
gd (¬ (q2 < 0 ∨ 6 ≤ q2.toNatClampNeg)) (
if (M 52 q2.toNatClampNeg) ≤ (M 52 q10.toNatClampNeg) then
cl (fX10_swap M q2 q10) fun M18 =>
st (q2 + (1 : Int32)) fun x19 =>
st ((M18 51 0) - (1 : Int32)) fun x20 =>
lp (fun (q21 : (Int32 × Int32 × zMs)) => (if q21.2.1 ≤ q21.1 then
some (.inr (.inr (.inr (((1 : Int32), q21.2.2)))))
else
cl (fX10_swap q21.2.2 q21.1 q21.2.1) fun M29 =>
st (q21.1 + (1 : Int32)) fun x30 =>
st (q21.2.1 + (-1 : Int32)) fun x31 =>
some (.inl (x30, x31, M29)) : Option ((Int32 × Int32 × zMs) ⊕ ((Int32) ⊕ ((Int32) ⊕ (Int32 × zMs)))))) 40000 (x19, x20, M18)
else
st (q10 + (-1 : Int32)) fun x32 =>
some (.inl (x32))))
def bN10_c (_u : Unit) : (Int32 × Int32 × zMs) → Option ((Int32 × Int32 × zMs) ⊕ ((Int32) ⊕ ((Int32) ⊕ (Int32 × zMs)))) := fun (q21 : (Int32 × Int32 × zMs)) =>
if q21.2.1 ≤ q21.1 then
some (.inr (.inr (.inr (((1 : Int32), q21.2.2)))))
else
cl (fX10_swap q21.2.2 q21.1 q21.2.1) fun M29 =>
st (q21.1 + (1 : Int32)) fun x30 =>
st (q21.2.1 + (-1 : Int32)) fun x31 =>
some (.inl (x30, x31, M29))
section PO
variable {S S1 S0 : zSt} {M M1 M0 : zMs} {c h : Nat} {ord : Nat → Nat}
def OS (S : zSt) (c : Nat) (ord : Nat → Nat) : Prop := zI S (5, 0, 0) 3 = nI c ∧ ∀ k, k < c → zI S (18, 0, 0) k = nI (ord k)
def OM (M : zMs) (c : Nat) (ord : Nat → Nat) : Prop := M 51 0 = nI c ∧ ∀ k, k < c → M 52 k = nI (ord k)
def oF (S S1 : zSt) : Prop := (∀ d : zId, d ≠ (18, 0, 0) → zI S1 d = zI S d) ∧ (∀ c, zL S1 c = zL S c) ∧ (∀ c, zQ S1 c = zQ S c) ∧ (∀ c, zN S1 c = zN S c) ∧ (∀ c, zV S1 c = zV S c)
theorem oF_r (S : zSt) : oF S S := ⟨fun _ _ => rfl, fun _ => rfl, fun _ => rfl, fun _ => rfl, fun _ => rfl⟩
theorem oF_t {S2 : zSt} (h : oF S S1) (h1 : oF S1 S2) : oF S S2 := ⟨fun c x => (h1.1 c x).trans (h.1 c x), fun c => (h1.2.1 c).trans (h.2.1 c), fun c => (h1.2.2.1 c).trans (h.2.2.1 c), fun c => (h1.2.2.2.1 c).trans (h.2.2.2.1 c), fun c => (h1.2.2.2.2 c).trans (h.2.2.2.2 c)⟩
theorem oF_p (S : zSt) (k : Nat) (v : Int32) : oF S (pI S (18, 0, 0) k v) := ⟨fun d hd => zI_pIn S hd k v, fun _ => rfl, fun _ => rfl, fun _ => rfl, fun _ => rfl⟩
theorem oF_h (h : oF S S1) : eqH S S1 := ⟨fun c hc => h.1 c (fun e => hc (by rw [e]; unfold hidC; simp)), h.2⟩
def mF (M M1 : zMs) : Prop := ∀ k, k ≠ 52 → M1 k = M k
theorem mF_t {M2 : zMs} (h : mF M M1) (h1 : mF M1 M2) : mF M M2 := fun k hk => (h1 k hk).trans (h k hk)
theorem gd_of {β : Type} {P : Prop} [Decidable P] (h : P) {k r : Option β} (hk : k = r) : gd P k = r := (gd_t h k).trans hk
theorem swap9 (h6 : c ≤ 6) (hO : OS S c ord) {i j : Nat} (hi : i < c) (hj : j < c) : ∃ S1, fX4_swapOrder S (nI i) (nI j) = some S1 ∧ OS S1 c (swP ord i j) ∧ oF S S1 := by
  obtain ⟨h1, h2⟩ := hO
  refine ⟨pI (pI S (18, 0, 0) i (zI S (18, 0, 0) j)) (18, 0, 0) j (zI S (18, 0, 0) i), ?_, ⟨?_, fun k hk => ?_⟩, oF_t (oF_p _ _ _) (oF_p _ _ _)⟩
  · unfold fX4_swapOrder
    simp (disch := omega) only [Nat.add_sub_cancel, nI_0, c2I, c3I, c4I, c6I, c8I, c9I, c10I, c15I, c16I, c20I, c30I, c40I, c48I, c60I, c100I, c120I, c159I, c160I, c239I, c240I, c256I, c300I, c318I, c320I, c720I, c840I, c960I, c2520I, c36000I, c1048576I, nI_1, nI_add, pk_mul, nI_pred1, nI_pm1, pk_sub, pk_div, nI_clamp, nI_lz, nI_leI, nI_ltI, nI_eq, nI_z, nI_lez, nI_gez, nI_gtz, nI_m, nI_m2, nI_lem, nI_ltm, nleF, leT, ltT, ltF, eqT, eqF, false_or, or_false, not_false_eq_true, not_true_eq_false, gd_T, st_q, cl_q, cl2_q, cxr_q, cxl_q, i10, if_true, if_false, Bool.false_eq_true]
  · rw [zI_pIn _ (kne (show (5 : Nat) ≠ 18 by decide)), zI_pIn _ (kne (show (5 : Nat) ≠ 18 by decide))]
    exact h1
  · rw [zI_at, zI_at]
    unfold swP
    by_cases e : k = j
    · rw [if_pos ⟨rfl, e⟩, if_pos e]; exact h2 i hi
    · rw [if_neg (fun q => e q.2), if_neg e]
      by_cases e2 : k = i
      · rw [if_pos ⟨rfl, e2⟩, if_pos e2]; exact h2 j hj
      · rw [if_neg (fun q => e2 q.2), if_neg e2]; exact h2 k hk
theorem swap10 (h6 : c ≤ 6) (hO : OM M c ord) {i j : Nat} (hi : i < c) (hj : j < c) : ∃ M1, fX10_swap M (nI i) (nI j) = some M1 ∧ OM M1 c (swP ord i j) ∧ mF M M1 := by
  obtain ⟨h1, h2⟩ := hO
  refine ⟨pM (pM M 52 i (M 52 j)) 52 j (M 52 i), ?_, ⟨?_, fun k hk => ?_⟩, fun k hk => by rw [pMn hk, pMn hk]⟩
  · unfold fX10_swap
    simp (disch := omega) only [Nat.add_sub_cancel, nI_0, c2I, c3I, c4I, c6I, c8I, c9I, c10I, c15I, c16I, c20I, c30I, c40I, c48I, c60I, c100I, c120I, c159I, c160I, c239I, c240I, c256I, c300I, c318I, c320I, c720I, c840I, c960I, c2520I, c36000I, c1048576I, nI_1, nI_add, pk_mul, nI_pred1, nI_pm1, pk_sub, pk_div, nI_clamp, nI_lz, nI_leI, nI_ltI, nI_eq, nI_z, nI_lez, nI_gez, nI_gtz, nI_m, nI_m2, nI_lem, nI_ltm, nleF, leT, ltT, ltF, eqT, eqF, false_or, or_false, not_false_eq_true, not_true_eq_false, gd_T, st_q, cl_q, cl2_q, cxr_q, cxl_q, i10, if_true, if_false, Bool.false_eq_true]
  · rw [pMn (by decide), pMn (by decide)]
    exact h1
  · rw [pM_at, pM_at]
    unfold swP
    by_cases e : k = j
    · rw [if_pos ⟨rfl, e⟩, if_pos e]; exact h2 i hi
    · rw [if_neg (fun q => e q.2), if_neg e]
      by_cases e2 : k = i
      · rw [if_pos ⟨rfl, e2⟩, if_pos e2]; exact h2 j hj
      · rw [if_neg (fun q => e2 q.2), if_neg e2]; exact h2 k hk
theorem rev9 (h6 : c ≤ 6) : ∀ (n fuel lo hi : Nat) (S : zSt) (ord : Nat → Nat), OS S c ord → lo ≤ c → hi < c → hi ≤ lo + 2 * n → n < fuel → ∃ S1, lp (bN9_c ()) fuel (nI lo, nI hi, S) = some (.inr (.inr (1, S1))) ∧ OS S1 c (rvP n ord lo hi) ∧ oF S S1 := by
  intro n
  induction n with
  | zero =>
    intro fuel lo hi S ord hO hlc hc hl hf
    obtain ⟨f, rfl⟩ : ∃ f, fuel = f + 1 := ⟨fuel - 1, by omega⟩
    refine ⟨S, lp_e _ f ?_, hO, oF_r S⟩
    unfold bN9_c
    dsimp only
    rw [if_pos (nI_le (by omega) (by omega))]
  | succ n ih =>
    intro fuel lo hi S ord hO hlc hc hl hf
    obtain ⟨f, rfl⟩ : ∃ f, fuel = f + 1 := ⟨fuel - 1, by omega⟩
    by_cases e : lo < hi
    · obtain ⟨S1, e1, o1, F1⟩ := swap9 h6 hO (show lo < c by omega) hc
      have eb : bN9_c () (nI lo, nI hi, S) = some (.inl (nI (lo + 1), nI (hi - 1), S1)) := by
        unfold bN9_c
        simp (disch := omega) only [Nat.add_sub_cancel, nI_0, c2I, c3I, c4I, c6I, c8I, c9I, c10I, c15I, c16I, c20I, c30I, c40I, c48I, c60I, c100I, c120I, c159I, c160I, c239I, c240I, c256I, c300I, c318I, c320I, c720I, c840I, c960I, c2520I, c36000I, c1048576I, nI_1, nI_add, pk_mul, nI_pred1, nI_pm1, pk_sub, pk_div, nI_clamp, nI_lz, nI_leI, nI_ltI, nI_eq, nI_z, nI_lez, nI_gez, nI_gtz, nI_m, nI_m2, nI_lem, nI_ltm, nleF, leT, ltT, ltF, eqT, eqF, false_or, or_false, not_false_eq_true, not_true_eq_false, gd_T, st_q, cl_q, cl2_q, cxr_q, cxl_q, i10, if_true, if_false, Bool.false_eq_true, e1]
      obtain ⟨S2, e2, o2, F2⟩ := ih f (lo + 1) (hi - 1) S1 (swP ord lo hi) o1 (by omega) (by omega) (by omega) (by omega)
      refine ⟨S2, by rw [lp_s _ f eb]; exact e2, ?_, oF_t F1 F2⟩
      show OS S2 c (if lo < hi then rvP n (swP ord lo hi) (lo + 1) (hi - 1) else ord)
      rw [if_pos e]
      exact o2
    · refine ⟨S, lp_e _ f ?_, ?_, oF_r S⟩
      · unfold bN9_c
        dsimp only
        rw [if_pos (nI_le (by omega) (by omega))]
      · show OS S c (if lo < hi then rvP n (swP ord lo hi) (lo + 1) (hi - 1) else ord)
        rw [if_neg e]
        exact hO
theorem rev10 (h6 : c ≤ 6) : ∀ (n fuel lo hi : Nat) (M : zMs) (ord : Nat → Nat), OM M c ord → lo ≤ c → hi < c → hi ≤ lo + 2 * n → n < fuel → ∃ M1, lp (bN10_c ()) fuel (nI lo, nI hi, M) = some (.inr (.inr (1, M1))) ∧ OM M1 c (rvP n ord lo hi) ∧ mF M M1 := by
  intro n
  induction n with
  | zero =>
    intro fuel lo hi M ord hO hlc hc hl hf
    obtain ⟨f, rfl⟩ : ∃ f, fuel = f + 1 := ⟨fuel - 1, by omega⟩
    refine ⟨M, lp_e _ f ?_, hO, fun _ _ => rfl⟩
    unfold bN10_c
    dsimp only
    rw [if_pos (nI_le (by omega) (by omega))]
  | succ n ih =>
    intro fuel lo hi M ord hO hlc hc hl hf
    obtain ⟨f, rfl⟩ : ∃ f, fuel = f + 1 := ⟨fuel - 1, by omega⟩
    by_cases e : lo < hi
    · obtain ⟨M1, e1, o1, F1⟩ := swap10 h6 hO (show lo < c by omega) hc
      have eb : bN10_c () (nI lo, nI hi, M) = some (.inl (nI (lo + 1), nI (hi - 1), M1)) := by
        unfold bN10_c
        simp (disch := omega) only [Nat.add_sub_cancel, nI_0, c2I, c3I, c4I, c6I, c8I, c9I, c10I, c15I, c16I, c20I, c30I, c40I, c48I, c60I, c100I, c120I, c159I, c160I, c239I, c240I, c256I, c300I, c318I, c320I, c720I, c840I, c960I, c2520I, c36000I, c1048576I, nI_1, nI_add, pk_mul, nI_pred1, nI_pm1, pk_sub, pk_div, nI_clamp, nI_lz, nI_leI, nI_ltI, nI_eq, nI_z, nI_lez, nI_gez, nI_gtz, nI_m, nI_m2, nI_lem, nI_ltm, nleF, leT, ltT, ltF, eqT, eqF, false_or, or_false, not_false_eq_true, not_true_eq_false, gd_T, st_q, cl_q, cl2_q, cxr_q, cxl_q, i10, if_true, if_false, Bool.false_eq_true, e1]
      obtain ⟨M2, e2, o2, F2⟩ := ih f (lo + 1) (hi - 1) M1 (swP ord lo hi) o1 (by omega) (by omega) (by omega) (by omega)
      refine ⟨M2, by rw [lp_s _ f eb]; exact e2, ?_, mF_t F1 F2⟩
      show OM M2 c (if lo < hi then rvP n (swP ord lo hi) (lo + 1) (hi - 1) else ord)
      rw [if_pos e]
      exact o2
    · refine ⟨M, lp_e _ f ?_, ?_, fun _ _ => rfl⟩
      · unfold bN10_c
        dsimp only
        rw [if_pos (nI_le (by omega) (by omega))]
      · show OM M c (if lo < hi then rvP n (swP ord lo hi) (lo + 1) (hi - 1) else ord)
        rw [if_neg e]
        exact hO
theorem tail9 (h6 : c ≤ 6) (hO : OS S c ord) (hb : ∀ k, k < c → ord k < 6) (hh : ord h ≤ ord (h + 1)) : ∀ (t fuel : Nat), h < t → t < c → t < fuel → ∃ S1, lp (bN9_b S (nI h) (nI (c - 1))) fuel (nI t) = some (.inr (1, S1)) ∧ OS S1 c (rvP 3 (swP ord h (tlP ord h t)) (h + 1) (c - 1)) ∧ oF S S1 := by
  intro t
  induction t with
  | zero => intro fuel ht; omega
  | succ t ih =>
    intro fuel ht hc hf
    obtain ⟨f, rfl⟩ : ∃ f, fuel = f + 1 := ⟨fuel - 1, by omega⟩
    have eh := hO.2 h (by omega)
    have et := hO.2 (t + 1) hc
    have b1 := hb h (by omega)
    have b2 := hb (t + 1) hc
    have eT : tlP ord h (t + 1) = if ord h ≤ ord (t + 1) then t + 1 else tlP ord h t := rfl
    by_cases e : ord h ≤ ord (t + 1)
    · rw [if_pos e] at eT
      obtain ⟨S1, e1, o1, F1⟩ := swap9 h6 hO (show h < c by omega) hc
      obtain ⟨S2, e2, o2, F2⟩ := rev9 h6 3 40000 (h + 1) (c - 1) S1 _ o1 (by omega) (by omega) (by omega) (by omega)
      refine ⟨S2, lp_e _ f ?_, by rw [eT]; exact o2, oF_t F1 F2⟩
      unfold bN9_b
      rw [st_s, if_neg (nI_ge ht (by omega)), gd_t (nI_in (show t + 1 < 6 by omega) (by omega)), gd_t (nI_in (show h < 6 by omega) (by omega)), nI_clamp (by omega), nI_clamp (by omega), eh, et, if_pos (nI_le e (by omega)), e1, cl_s, st_s, st_s, nI_1]
      exact e2
    · rw [if_neg e] at eT
      have htt : h < t := by
        by_cases e2 : h = t
        · rw [← e2] at e; exact absurd hh e
        · omega
      have eb : bN9_b S (nI h) (nI (c - 1)) (nI (t + 1)) = some (.inl (nI t)) := by
        unfold bN9_b
        rw [st_s, if_neg (nI_ge ht (by omega)), gd_t (nI_in (show t + 1 < 6 by omega) (by omega)), gd_t (nI_in (show h < 6 by omega) (by omega)), nI_clamp (by omega), nI_clamp (by omega), eh, et, if_neg (nI_ge (by omega) (by omega)), st_s, pk_m1]
      rw [lp_s _ f eb, eT]
      exact ih f htt (by omega) (by omega)
theorem tail10 (h6 : c ≤ 6) (hO : OM M c ord) (hb : ∀ k, k < c → ord k < 6) (hh : ord h ≤ ord (h + 1)) : ∀ (t fuel : Nat), h < t → t < c → t < fuel → ∃ M1, lp (bN10_b M (nI h)) fuel (nI t) = some (.inr (1, M1)) ∧ OM M1 c (rvP 3 (swP ord h (tlP ord h t)) (h + 1) (c - 1)) ∧ mF M M1 := by
  intro t
  induction t with
  | zero => intro fuel ht; omega
  | succ t ih =>
    intro fuel ht hc hf
    obtain ⟨f, rfl⟩ : ∃ f, fuel = f + 1 := ⟨fuel - 1, by omega⟩
    have eh := hO.2 h (by omega)
    have et := hO.2 (t + 1) hc
    have b1 := hb h (by omega)
    have b2 := hb (t + 1) hc
    have eT : tlP ord h (t + 1) = if ord h ≤ ord (t + 1) then t + 1 else tlP ord h t := rfl
    by_cases e : ord h ≤ ord (t + 1)
    · rw [if_pos e] at eT
      obtain ⟨M1, e1, o1, F1⟩ := swap10 h6 hO (show h < c by omega) hc
      obtain ⟨M2, e2, o2, F2⟩ := rev10 h6 3 40000 (h + 1) (c - 1) M1 _ o1 (by omega) (by omega) (by omega) (by omega)
      refine ⟨M2, lp_e _ f ?_, by rw [eT]; exact o2, mF_t F1 F2⟩
      unfold bN10_b
      rw [gd_t (nI_in (show t + 1 < 6 by omega) (by omega)), gd_t (nI_in (show h < 6 by omega) (by omega)), nI_clamp (by omega), nI_clamp (by omega), eh, et, if_pos (nI_le e (by omega)), e1, cl_s, st_s, st_s, nI_1, o1.1, nI_pred1 (by omega)]
      exact e2
    · rw [if_neg e] at eT
      have htt : h < t := by
        by_cases e2 : h = t
        · rw [← e2] at e; exact absurd hh e
        · omega
      have eb : bN10_b M (nI h) (nI (t + 1)) = some (.inl (nI t)) := by
        unfold bN10_b
        rw [gd_t (nI_in (show t + 1 < 6 by omega) (by omega)), gd_t (nI_in (show h < 6 by omega) (by omega)), nI_clamp (by omega), nI_clamp (by omega), eh, et, if_neg (nI_ge (by omega) (by omega)), st_s, pk_m1]
      rw [lp_s _ f eb, eT]
      exact ih f htt (by omega) (by omega)
/-- where there is no next order, and where there is -/
def nxE {α : Type} (c : Nat) (ord : Nat → Nat) (s : α) (r : Option (Int32 × α)) (P : α → (Nat → Nat) → Prop) : Prop := (nxP c ord = none ∧ r = some (0, s)) ∨ ∃ ord1 s1, nxP c ord = some ord1 ∧ r = some (1, s1) ∧ P s1 ord1
theorem head9 (h6 : c ≤ 6) (hO : OS S c ord) (hb : ∀ k, k < c → ord k < 6) : ∀ (n fuel : Nat), n + 1 ≤ c → n < fuel → (hdP ord n = none ∧ lp (bN9_a S) fuel (nI n - 1) = some (0, S)) ∨ ∃ h S1, hdP ord n = some h ∧ lp (bN9_a S) fuel (nI n - 1) = some (1, S1) ∧ OS S1 c (rvP 3 (swP ord h (tlP ord h (c - 1))) (h + 1) (c - 1)) ∧ oF S S1 := by
  intro n
  induction n with
  | zero =>
    intro fuel hn hf
    obtain ⟨f, rfl⟩ : ∃ f, fuel = f + 1 := ⟨fuel - 1, by omega⟩
    refine Or.inl ⟨rfl, lp_e _ f ?_⟩
    unfold bN9_a
    rw [nI_0, st_s, if_pos (by decide), if_neg (by decide)]
  | succ n ih =>
    intro fuel hn hf
    obtain ⟨f, rfl⟩ : ∃ f, fuel = f + 1 := ⟨fuel - 1, by omega⟩
    rw [nI_pred]
    have eh := hO.2 n (by omega)
    have eh1 := hO.2 (n + 1) (by omega)
    have b1 := hb n (by omega)
    have b2 := hb (n + 1) (by omega)
    have eH : hdP ord (n + 1) = if ord n ≤ ord (n + 1) then some n else hdP ord n := rfl
    by_cases e : ord n ≤ ord (n + 1)
    · rw [if_pos e] at eH
      obtain ⟨S1, e1, o1, F1⟩ := tail9 h6 hO hb e (c - 1) 40000 (by omega) (by omega) (by omega)
      refine Or.inr ⟨n, S1, eH, lp_e _ f ?_, o1, F1⟩
      unfold bN9_a
      rw [st_s]
      refine (if_neg (nI_pos (by omega))).trans ?_
      refine gd_of (nI_in (show n < 6 by omega) (by omega)) ?_
      refine gd_of (by rw [nI_1]; exact nI_in (show n + 1 < 6 by omega) (by omega)) ?_
      refine (if_pos (by rw [nI_1, nI_clamp (by omega), nI_clamp (by omega), eh, eh1]; exact nI_le e (by omega))).trans ?_
      refine (if_pos (nI_pos' (by omega))).trans ?_
      rw [show ((if (6 : Int32) < zI S (5, 0, 0) 3 then (6 : Int32) else zI S (5, 0, 0) 3) - 1) = nI (c - 1) from by rw [if_neg (by rw [hO.1, c6I]; exact nI_nlt (by omega) (by omega)), hO.1, nI_pred1 (by omega)], st_s, st_s]
      exact e1
    · rw [if_neg e] at eH
      have eb : bN9_a S (nI n) = some (.inl (nI n - 1)) := by
        unfold bN9_a
        rw [st_s, if_neg (nI_pos (by omega)), gd_t (nI_in (show n < 6 by omega) (by omega)), nI_1, gd_t (nI_in (show n + 1 < 6 by omega) (by omega)), nI_clamp (by omega), nI_clamp (by omega), if_neg (by rw [eh, eh1]; exact nI_ge (by omega) (by omega)), st_s, Int32.sub_eq_add_neg]
      rw [lp_s _ f eb, eH]
      exact ih f (by omega) (by omega)
theorem head10 (h6 : c ≤ 6) (hO : OM M c ord) (hb : ∀ k, k < c → ord k < 6) : ∀ (n fuel : Nat), n + 1 ≤ c → n < fuel → (hdP ord n = none ∧ lp (bN10_a M) fuel (nI n - 1) = some (0, M)) ∨ ∃ h M1, hdP ord n = some h ∧ lp (bN10_a M) fuel (nI n - 1) = some (1, M1) ∧ OM M1 c (rvP 3 (swP ord h (tlP ord h (c - 1))) (h + 1) (c - 1)) ∧ mF M M1 := by
  intro n
  induction n with
  | zero =>
    intro fuel hn hf
    obtain ⟨f, rfl⟩ : ∃ f, fuel = f + 1 := ⟨fuel - 1, by omega⟩
    refine Or.inl ⟨rfl, lp_e _ f ?_⟩
    unfold bN10_a
    rw [nI_0, st_s, if_pos (by decide), if_neg (by decide)]
  | succ n ih =>
    intro fuel hn hf
    obtain ⟨f, rfl⟩ : ∃ f, fuel = f + 1 := ⟨fuel - 1, by omega⟩
    rw [nI_pred]
    have eh := hO.2 n (by omega)
    have eh1 := hO.2 (n + 1) (by omega)
    have b1 := hb n (by omega)
    have b2 := hb (n + 1) (by omega)
    have eH : hdP ord (n + 1) = if ord n ≤ ord (n + 1) then some n else hdP ord n := rfl
    by_cases e : ord n ≤ ord (n + 1)
    · rw [if_pos e] at eH
      obtain ⟨M1, e1, o1, F1⟩ := tail10 h6 hO hb e (c - 1) 40000 (by omega) (by omega) (by omega)
      refine Or.inr ⟨n, M1, eH, lp_e _ f ?_, o1, F1⟩
      unfold bN10_a
      rw [st_s]
      refine (if_neg (nI_pos (by omega))).trans ?_
      refine gd_of (nI_in (show n < 6 by omega) (by omega)) ?_
      refine gd_of (by rw [nI_1]; exact nI_in (show n + 1 < 6 by omega) (by omega)) ?_
      refine (if_pos (by rw [nI_1, nI_clamp (by omega), nI_clamp (by omega), eh, eh1]; exact nI_le e (by omega))).trans ?_
      refine (if_pos (nI_pos' (by omega))).trans ?_
      rw [show M 51 0 - 1 = nI (c - 1) from by rw [hO.1, nI_pred1 (by omega)], st_s]
      exact e1
    · rw [if_neg e] at eH
      have eb : bN10_a M (nI n) = some (.inl (nI n - 1)) := by
        unfold bN10_a
        rw [st_s, if_neg (nI_pos (by omega)), gd_t (nI_in (show n < 6 by omega) (by omega)), nI_1, gd_t (nI_in (show n + 1 < 6 by omega) (by omega)), nI_clamp (by omega), nI_clamp (by omega), if_neg (by rw [eh, eh1]; exact nI_ge (by omega) (by omega)), st_s, Int32.sub_eq_add_neg]
      rw [lp_s _ f eb, eH]
      exact ih f (by omega) (by omega)
theorem nxP_n {ord : Nat → Nat} {c : Nat} (h : hdP ord (c - 1) = none) : nxP c ord = none := by unfold nxP; rw [h]
theorem nxP_s {ord : Nat → Nat} {c h : Nat} (e : hdP ord (c - 1) = some h) : nxP c ord = some (rvP 3 (swP ord h (tlP ord h (c - 1))) (h + 1) (c - 1)) := by unfold nxP; rw [e]
theorem sub2 {c : Nat} (h : 1 ≤ c) : nI c - 2 = nI (c - 1) - 1 := by
  obtain ⟨m, rfl⟩ : ∃ m, c = m + 1 := ⟨c - 1, by omega⟩
  rw [Nat.add_sub_cancel, nI_succ, Int32.sub_eq_add_neg, Int32.add_assoc, show (1 : Int32) + -2 = -1 by decide, ← Int32.sub_eq_add_neg]
theorem next9 (h6 : c ≤ 6) (hO : OS S c ord) (hb : ∀ k, k < c → ord k < 6) : nxE c ord S (fX4_nextOrder S) (fun S1 ord1 => OS S1 c ord1 ∧ oF S S1) := by
  unfold fX4_nextOrder
  rw [show ((if (6 : Int32) < zI S (5, 0, 0) 3 then (6 : Int32) else zI S (5, 0, 0) 3) - 2) = nI c - 2 from by rw [if_neg (by rw [hO.1, c6I]; exact nI_nlt (by omega) (by omega)), hO.1], st_s]
  by_cases h0 : c = 0
  · subst h0
    refine Or.inl ⟨rfl, ?_⟩
    refine lp_e (bN9_a S) 39999 ?_
    unfold bN9_a
    rw [nI_0, st_s, if_pos (by decide), if_neg (by decide)]
  · rw [sub2 (by omega)]
    rcases head9 h6 hO hb (c - 1) 40000 (by omega) (by omega) with ⟨q1, q2⟩ | ⟨h, S1, q1, q2, q3⟩
    · exact Or.inl ⟨nxP_n q1, q2⟩
    · exact Or.inr ⟨_, S1, nxP_s q1, q2, q3⟩
theorem next10 (h6 : c ≤ 6) (hO : OM M c ord) (hb : ∀ k, k < c → ord k < 6) : nxE c ord M (fX10_reorder M) (fun M1 ord1 => OM M1 c ord1 ∧ mF M M1) := by
  unfold fX10_reorder
  rw [show M 51 0 - 2 = nI c - 2 from by rw [hO.1], st_s]
  by_cases h0 : c = 0
  · subst h0
    refine Or.inl ⟨rfl, ?_⟩
    refine lp_e (bN10_a M) 39999 ?_
    unfold bN10_a
    rw [nI_0, st_s, if_pos (by decide), if_neg (by decide)]
  · rw [sub2 (by omega)]
    rcases head10 h6 hO hb (c - 1) 40000 (by omega) (by omega) with ⟨q1, q2⟩ | ⟨h, M1, q1, q2, q3⟩
    · exact Or.inl ⟨nxP_n q1, q2⟩
    · exact Or.inr ⟨_, M1, nxP_s q1, q2, q3⟩
end PO
