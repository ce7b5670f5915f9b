/-! coin -/
def bCp (a_z : Nat) (b_z : Nat) (g_a : Nat) : (Int32 × zSt) → Option ((Int32 × zSt) ⊕ zSt) := fun (q6 : (Int32 × zSt)) =>
if (8 : Int32) ≤ q6.1 then
st (0 : Int32) fun x13 =>
lp (fun (q14 : (Int32 × zSt)) => (if (4 : Int32) ≤ q14.1 then
some (.inr (.inr (q14.2)))
else
gd (¬ (q14.1 < 0 ∨ 4 ≤ q14.1.toNatClampNeg)) (
cl (fX6_changeMode q14.2 1 g_a q14.1 (zQ q14.2 (13, a_z, b_z) q14.1.toNatClampNeg)) fun S25 =>
st (q14.1 + (1 : Int32)) fun x26 =>
some (.inl (x26, S25))) : Option ((Int32 × zSt) ⊕ ((Int32 × zSt) ⊕ zSt)))) 40000 (x13, q6.2)
else
gd (¬ (q6.1 < 0 ∨ 8 ≤ q6.1.toNatClampNeg)) (
cl (fX6_changePoints q6.2 1 g_a q6.1 (zI q6.2 (12, a_z, b_z) q6.1.toNatClampNeg)) fun S30 =>
st (q6.1 + (1 : Int32)) fun x31 =>
some (.inl (x31, S30)))
def bCq (a_z : Nat) (b_z : Nat) (g_a : Nat) : (Int32 × zSt) → Option ((Int32 × zSt) ⊕ ((Int32 × zSt) ⊕ zSt)) := fun (q14 : (Int32 × zSt)) =>
if (4 : Int32) ≤ q14.1 then
some (.inr (.inr (q14.2)))
else
gd (¬ (q14.1 < 0 ∨ 4 ≤ q14.1.toNatClampNeg)) (
cl (fX6_changeMode q14.2 1 g_a q14.1 (zQ q14.2 (13, a_z, b_z) q14.1.toNatClampNeg)) fun S25 =>
st (q14.1 + (1 : Int32)) fun x26 =>
some (.inl (x26, S25)))
def bCoP (i_1 : Int32) (x17 : Int32) : (Int32 × zMs) → Option ((Int32 × zMs) ⊕ (Int32 × zMs)) := fun (q21 : (Int32 × zMs)) =>
if (8 : Int32) ≤ q21.1 then
st (0 : Int32) fun x27 =>
lp (fun (q28 : (Int32 × zMs)) => (if (4 : Int32) ≤ q28.1 then
gd (¬ (i_1 < 0 ∨ 6 ≤ i_1.toNatClampNeg)) (
gd (¬ (i_1 < 0 ∨ 6 ≤ i_1.toNatClampNeg)) (
gd (¬ (i_1 < 0 ∨ 6 ≤ i_1.toNatClampNeg)) (
st (pM q28.2 4 i_1.toNatClampNeg ((q28.2 4 i_1.toNatClampNeg) + (q28.2 3 i_1.toNatClampNeg))) fun M34 =>
gd (¬ (i_1 < 0 ∨ 6 ≤ i_1.toNatClampNeg)) (
gd (¬ (i_1 < 0 ∨ 6 ≤ i_1.toNatClampNeg)) (
gd (¬ (i_1 < 0 ∨ 6 ≤ i_1.toNatClampNeg)) (
st (pM M34 5 i_1.toNatClampNeg ((M34 5 i_1.toNatClampNeg) + (M34 3 i_1.toNatClampNeg))) fun M35 =>
gd (¬ (i_1 < 0 ∨ 6 ≤ i_1.toNatClampNeg)) (
st (pM M35 7 i_1.toNatClampNeg x17) fun M36 =>
st (pM M36 24 0 ((M36 24 0) + (1 : Int32))) fun M37 =>
some (.inr (.inr ((x17, M37)))))))))))
else
gd (¬ ((((4 : Int32) * i_1) + q28.1) < 0 ∨ 24 ≤ (((4 : Int32) * i_1) + q28.1).toNatClampNeg)) (
gd (¬ ((((4 : Int32) * x17) + q28.1) < 0 ∨ 160 ≤ (((4 : Int32) * x17) + q28.1).toNatClampNeg)) (
st (pM q28.2 29 (((4 : Int32) * x17) + q28.1).toNatClampNeg (q28.2 17 (((4 : Int32) * i_1) + q28.1).toNatClampNeg)) fun M38 =>
gd (¬ ((((4 : Int32) * i_1) + q28.1) < 0 ∨ 24 ≤ (((4 : Int32) * i_1) + q28.1).toNatClampNeg)) (
gd (¬ ((((4 : Int32) * x17) + q28.1) < 0 ∨ 160 ≤ (((4 : Int32) * x17) + q28.1).toNatClampNeg)) (
st (pM M38 30 (((4 : Int32) * x17) + q28.1).toNatClampNeg (M38 18 (((4 : Int32) * i_1) + q28.1).toNatClampNeg)) fun M39 =>
gd (¬ ((((4 : Int32) * i_1) + q28.1) < 0 ∨ 24 ≤ (((4 : Int32) * i_1) + q28.1).toNatClampNeg)) (
gd (¬ ((((4 : Int32) * x17) + q28.1) < 0 ∨ 160 ≤ (((4 : Int32) * x17) + q28.1).toNatClampNeg)) (
st (pM M39 31 (((4 : Int32) * x17) + q28.1).toNatClampNeg (M39 19 (((4 : Int32) * i_1) + q28.1).toNatClampNeg)) fun M40 =>
gd (¬ ((((4 : Int32) * i_1) + q28.1) < 0 ∨ 24 ≤ (((4 : Int32) * i_1) + q28.1).toNatClampNeg)) (
gd (¬ ((((4 : Int32) * x17) + q28.1) < 0 ∨ 160 ≤ (((4 : Int32) * x17) + q28.1).toNatClampNeg)) (
st (pM M40 32 (((4 : Int32) * x17) + q28.1).toNatClampNeg (M40 20 (((4 : Int32) * i_1) + q28.1).toNatClampNeg)) fun M41 =>
gd (¬ ((((4 : Int32) * i_1) + q28.1) < 0 ∨ 24 ≤ (((4 : Int32) * i_1) + q28.1).toNatClampNeg)) (
gd (¬ ((((4 : Int32) * x17) + q28.1) < 0 ∨ 160 ≤ (((4 : Int32) * x17) + q28.1).toNatClampNeg)) (
st (pM M41 33 (((4 : Int32) * x17) + q28.1).toNatClampNeg (M41 21 (((4 : Int32) * i_1) + q28.1).toNatClampNeg)) fun M42 =>
st (q28.1 + (1 : Int32)) fun x43 =>
some (.inl (x43, M42)))))))))))) : Option ((Int32 × zMs) ⊕ ((Int32 × zMs) ⊕ (Int32 × zMs))))) 40000 (x27, q21.2)
else
gd (¬ ((((8 : Int32) * i_1) + q21.1) < 0 ∨ 48 ≤ (((8 : Int32) * i_1) + q21.1).toNatClampNeg)) (
gd (¬ ((((8 : Int32) * x17) + q21.1) < 0 ∨ 320 ≤ (((8 : Int32) * x17) + q21.1).toNatClampNeg)) (
st (pM q21.2 28 (((8 : Int32) * x17) + q21.1).toNatClampNeg (q21.2 14 (((8 : Int32) * i_1) + q21.1).toNatClampNeg)) fun M44 =>
st (q21.1 + (1 : Int32)) fun x45 =>
some (.inl (x45, M44))))
def bCoQ (i_1 : Int32) (x17 : Int32) : (Int32 × zMs) → Option ((Int32 × zMs) ⊕ ((Int32 × zMs) ⊕ (Int32 × zMs))) := fun (q28 : (Int32 × zMs)) =>
if (4 : Int32) ≤ q28.1 then
gd (¬ (i_1 < 0 ∨ 6 ≤ i_1.toNatClampNeg)) (
gd (¬ (i_1 < 0 ∨ 6 ≤ i_1.toNatClampNeg)) (
gd (¬ (i_1 < 0 ∨ 6 ≤ i_1.toNatClampNeg)) (
st (pM q28.2 4 i_1.toNatClampNeg ((q28.2 4 i_1.toNatClampNeg) + (q28.2 3 i_1.toNatClampNeg))) fun M34 =>
gd (¬ (i_1 < 0 ∨ 6 ≤ i_1.toNatClampNeg)) (
gd (¬ (i_1 < 0 ∨ 6 ≤ i_1.toNatClampNeg)) (
gd (¬ (i_1 < 0 ∨ 6 ≤ i_1.toNatClampNeg)) (
st (pM M34 5 i_1.toNatClampNeg ((M34 5 i_1.toNatClampNeg) + (M34 3 i_1.toNatClampNeg))) fun M35 =>
gd (¬ (i_1 < 0 ∨ 6 ≤ i_1.toNatClampNeg)) (
st (pM M35 7 i_1.toNatClampNeg x17) fun M36 =>
st (pM M36 24 0 ((M36 24 0) + (1 : Int32))) fun M37 =>
some (.inr (.inr ((x17, M37)))))))))))
else
gd (¬ ((((4 : Int32) * i_1) + q28.1) < 0 ∨ 24 ≤ (((4 : Int32) * i_1) + q28.1).toNatClampNeg)) (
gd (¬ ((((4 : Int32) * x17) + q28.1) < 0 ∨ 160 ≤ (((4 : Int32) * x17) + q28.1).toNatClampNeg)) (
st (pM q28.2 29 (((4 : Int32) * x17) + q28.1).toNatClampNeg (q28.2 17 (((4 : Int32) * i_1) + q28.1).toNatClampNeg)) fun M38 =>
gd (¬ ((((4 : Int32) * i_1) + q28.1) < 0 ∨ 24 ≤ (((4 : Int32) * i_1) + q28.1).toNatClampNeg)) (
gd (¬ ((((4 : Int32) * x17) + q28.1) < 0 ∨ 160 ≤ (((4 : Int32) * x17) + q28.1).toNatClampNeg)) (
st (pM M38 30 (((4 : Int32) * x17) + q28.1).toNatClampNeg (M38 18 (((4 : Int32) * i_1) + q28.1).toNatClampNeg)) fun M39 =>
gd (¬ ((((4 : Int32) * i_1) + q28.1) < 0 ∨ 24 ≤ (((4 : Int32) * i_1) + q28.1).toNatClampNeg)) (
gd (¬ ((((4 : Int32) * x17) + q28.1) < 0 ∨ 160 ≤ (((4 : Int32) * x17) + q28.1).toNatClampNeg)) (
st (pM M39 31 (((4 : Int32) * x17) + q28.1).toNatClampNeg (M39 19 (((4 : Int32) * i_1) + q28.1).toNatClampNeg)) fun M40 =>
gd (¬ ((((4 : Int32) * i_1) + q28.1) < 0 ∨ 24 ≤ (((4 : Int32) * i_1) + q28.1).toNatClampNeg)) (
gd (¬ ((((4 : Int32) * x17) + q28.1) < 0 ∨ 160 ≤ (((4 : Int32) * x17) + q28.1).toNatClampNeg)) (
st (pM M40 32 (((4 : Int32) * x17) + q28.1).toNatClampNeg (M40 20 (((4 : Int32) * i_1) + q28.1).toNatClampNeg)) fun M41 =>
gd (¬ ((((4 : Int32) * i_1) + q28.1) < 0 ∨ 24 ≤ (((4 : Int32) * i_1) + q28.1).toNatClampNeg)) (
gd (¬ ((((4 : Int32) * x17) + q28.1) < 0 ∨ 160 ≤ (((4 : Int32) * x17) + q28.1).toNatClampNeg)) (
st (pM M41 33 (((4 : Int32) * x17) + q28.1).toNatClampNeg (M41 21 (((4 : Int32) * i_1) + q28.1).toNatClampNeg)) fun M42 =>
st (q28.1 + (1 : Int32)) fun x43 =>
some (.inl (x43, M42))))))))))))
section PCO
variable {S S1 S2 : zSt} {M M1 : zMs} {t g : Nat}
def cpP (S : zSt) (t g : Nat) : Nat → zSt
  | 0 => S
  | k + 1 => pI (cpP S t g k) (12, 1, g) k (zI S (12, 0, t) k)
def cpQ (S : zSt) (t g : Nat) : Nat → zSt
  | 0 => S
  | k + 1 => pQ (cpQ S t g k) (13, 1, g) k (zQ S (13, 0, t) k)
theorem cpP_X (S : zSt) (t g : Nat) : ∀ k, eqX S (cpP S t g k) (fun c => c = (12, 1, g)) := by
  intro k
  induction k with
  | zero => exact fun _ _ => ⟨rfl, rfl, rfl, rfl, rfl⟩
  | succ k ih =>
    intro c hc
    obtain ⟨a1, a2, a3, a4, a5⟩ := ih c hc
    exact ⟨(zI_pIn _ hc _ _).trans a1, a2, a3, a4, a5⟩
theorem cpP_V (S : zSt) (t g : Nat) : ∀ k c, zV (cpP S t g k) c = zV S c := by
  intro k
  induction k with
  | zero => exact fun _ => rfl
  | succ k ih => exact fun c => ih c
theorem cpP_a (S : zSt) (t g : Nat) : ∀ n k, k < n → zI (cpP S t g n) (12, 1, g) k = zI S (12, 0, t) k := by
  intro n
  induction n with
  | zero => intro k hk; omega
  | succ n ih =>
    intro k hk
    show zI (pI (cpP S t g n) (12, 1, g) n (zI S (12, 0, t) n)) (12, 1, g) k = _
    rw [zI_at]
    by_cases e : k = n
    · rw [if_pos ⟨rfl, e⟩, e]
    · rw [if_neg (fun q => e q.2)]; exact ih k (by omega)
theorem cpQ_X (S : zSt) (t g : Nat) : ∀ k, eqX S (cpQ S t g k) (fun c => c = (13, 1, g)) := by
  intro k
  induction k with
  | zero => exact fun _ _ => ⟨rfl, rfl, rfl, rfl, rfl⟩
  | succ k ih =>
    intro c hc
    obtain ⟨a1, a2, a3, a4, a5⟩ := ih c hc
    exact ⟨a1, a2, (zQ_pQn _ hc _ _).trans a3, a4, a5⟩
theorem cpQ_I (S : zSt) (t g : Nat) : ∀ k c, zI (cpQ S t g k) c = zI S c ∧ zV (cpQ S t g k) c = zV S c := by
  intro k
  induction k with
  | zero => exact fun _ => ⟨rfl, rfl⟩
  | succ k ih => exact fun c => ih c
theorem cpQ_a (S : zSt) (t g : Nat) : ∀ n k, zQ (cpQ S t g n) (13, 1, g) k = if k < n then zQ S (13, 0, t) k else zQ S (13, 1, g) k := by
  intro n
  induction n with
  | zero => intro k; rw [if_neg (Nat.not_lt_zero _)]; rfl
  | succ n ih =>
    intro k
    show zQ (pQ (cpQ S t g n) (13, 1, g) n (zQ S (13, 0, t) n)) (13, 1, g) k = _
    rw [zQ_pQs]
    unfold va_up
    by_cases e : k = n
    · rw [if_pos e, if_pos (by omega), e]
    · rw [if_neg e, ih k]
      by_cases e2 : k < n
      · rw [if_pos e2, if_pos (by omega)]
      · rw [if_neg e2, if_neg (by omega)]
theorem n1213 (t g : Nat) : ((12, 0, t) : zId) ≠ (12, 1, g) := fun e => by
  have := congrArg (fun z : zId => z.2.1) e
  dsimp only at this
  omega
theorem n1313 (t g : Nat) : ((13, 0, t) : zId) ≠ (13, 1, g) := fun e => by
  have := congrArg (fun z : zId => z.2.1) e
  dsimp only at this
  omega
theorem copied_eq (f13 : zV S (13, 1, g) = false) (f12 : zV S (12, 1, g) = false) (f7 : zV S (7, 1, g) = false) : ∃ S1, fX6_copied S 0 t g = some S1 ∧ eqX S S1 (fun d => d = (13, 1, g) ∨ d = (12, 1, g) ∨ d = (7, 1, g)) ∧ (∀ k, k < 8 → zI S1 (12, 1, g) k = zI S (12, 0, t) k) ∧ ∀ k, zQ S1 (13, 1, g) k = if k < 4 then zQ S (13, 0, t) k else none := by
  obtain ⟨S3, e3, x3, q13, z12, -⟩ := rules_eq f13 f12 f7
  have o12 : zI S3 (12, 0, t) = zI S (12, 0, t) := (x3 _ (fun q => q.elim (fun q => q.elim (kne (show (12 : Nat) ≠ 13 by decide)) (n1213 t g)) (kne (show (12 : Nat) ≠ 7 by decide)))).1
  have o13 : zQ S3 (13, 0, t) = zQ S (13, 0, t) := (x3 _ (fun q => q.elim (fun q => q.elim (n1313 t g) (kne (show (13 : Nat) ≠ 12 by decide))) (kne (show (13 : Nat) ≠ 7 by decide)))).2.2.1
  have p13 : ∀ k, zQ (cpP S3 t g k) (13, 0, t) = zQ S3 (13, 0, t) := fun k => (cpP_X S3 t g k _ (kne (show (13 : Nat) ≠ 12 by decide))).2.2.1
  refine ⟨cpQ (cpP S3 t g 8) t g 4, ?_, ?_, fun k hk => ?_, fun k => ?_⟩
  · unfold fX6_copied
    rw [e3, cl_s, st_s]
    refine lp_up (body := bCp 0 t g) (fun k => (nI k, cpP S3 t g k)) 8 (by omega) ?_ (fun k hk => ?_) ?_
    · show _ = (nI 0, S3)
      rw [nI_0]
    · have e12 : zI (cpP S3 t g k) (12, 0, t) k = zI S3 (12, 0, t) k := by rw [(cpP_X S3 t g k _ (n1213 t g)).1]
      unfold bCp fX6_changePoints
      simp (disch := omega) only [Nat.add_sub_cancel, nI_0, c2I, c3I, c4I, c6I, c8I, c9I, c10I, c15I, c16I, c20I, c30I, c40I, c48I, c60I, c100I, c120I, c159I, c160I, c239I, c240I, c256I, c300I, c318I, c320I, c720I, c840I, c960I, c2520I, c36000I, c1048576I, nI_1, nI_add, pk_mul, nI_pred1, nI_pm1, pk_sub, pk_div, nI_clamp, nI_lz, nI_leI, nI_ltI, nI_eq, nI_z, nI_lez, nI_gez, nI_gtz, nI_m, nI_m2, nI_lem, nI_ltm, nleF, leT, ltT, ltF, eqT, eqF, false_or, or_false, not_false_eq_true, not_true_eq_false, gd_T, st_q, cl_q, cl2_q, cxr_q, cxl_q, i10, if_true, if_false, Bool.false_eq_true, e12]
      rfl
    · unfold bCp
      dsimp only
      rw [if_pos (by decide), st_s]
      refine lp_up (body := bCq 0 t g) (fun k => (nI k, cpQ (cpP S3 t g 8) t g k)) 4 (by omega) ?_ (fun k hk => ?_) ?_
      · show _ = (nI 0, cpP S3 t g 8)
        rw [nI_0]
      · have e13 : zQ (cpQ (cpP S3 t g 8) t g k) (13, 0, t) k = zQ (cpP S3 t g 8) (13, 0, t) k := by rw [(cpQ_X (cpP S3 t g 8) t g k _ (n1313 t g)).2.2.1]
        have ch : ∀ (A : zSt) (ob : Option Nat), fX6_changeMode A 1 g (nI k) ob = some (pQ A (13, 1, g) k ob) := by
          intro A ob
          unfold fX6_changeMode
          cases ob with
          | none => simp (disch := omega) only [Nat.add_sub_cancel, nI_0, c2I, c3I, c4I, c6I, c8I, c9I, c10I, c15I, c16I, c20I, c30I, c40I, c48I, c60I, c100I, c120I, c159I, c160I, c239I, c240I, c256I, c300I, c318I, c320I, c720I, c840I, c960I, c2520I, c36000I, c1048576I, nI_1, nI_add, pk_mul, nI_pred1, nI_pm1, pk_sub, pk_div, nI_clamp, nI_lz, nI_leI, nI_ltI, nI_eq, nI_z, nI_lez, nI_gez, nI_gtz, nI_m, nI_m2, nI_lem, nI_ltm, nleF, leT, ltT, ltF, eqT, eqF, false_or, or_false, not_false_eq_true, not_true_eq_false, gd_T, st_q, cl_q, cl2_q, cxr_q, cxl_q, i10, if_true, if_false, Bool.false_eq_true, om_n]
          | some n => simp (disch := omega) only [Nat.add_sub_cancel, nI_0, c2I, c3I, c4I, c6I, c8I, c9I, c10I, c15I, c16I, c20I, c30I, c40I, c48I, c60I, c100I, c120I, c159I, c160I, c239I, c240I, c256I, c300I, c318I, c320I, c720I, c840I, c960I, c2520I, c36000I, c1048576I, nI_1, nI_add, pk_mul, nI_pred1, nI_pm1, pk_sub, pk_div, nI_clamp, nI_lz, nI_leI, nI_ltI, nI_eq, nI_z, nI_lez, nI_gez, nI_gtz, nI_m, nI_m2, nI_lem, nI_ltm, nleF, leT, ltT, ltF, eqT, eqF, false_or, or_false, not_false_eq_true, not_true_eq_false, gd_T, st_q, cl_q, cl2_q, cxr_q, cxl_q, i10, if_true, if_false, Bool.false_eq_true, om_s]
        unfold bCq
        simp (disch := omega) only [Nat.add_sub_cancel, nI_0, c2I, c3I, c4I, c6I, c8I, c9I, c10I, c15I, c16I, c20I, c30I, c40I, c48I, c60I, c100I, c120I, c159I, c160I, c239I, c240I, c256I, c300I, c318I, c320I, c720I, c840I, c960I, c2520I, c36000I, c1048576I, nI_1, nI_add, pk_mul, nI_pred1, nI_pm1, pk_sub, pk_div, nI_clamp, nI_lz, nI_leI, nI_ltI, nI_eq, nI_z, nI_lez, nI_gez, nI_gtz, nI_m, nI_m2, nI_lem, nI_ltm, nleF, leT, ltT, ltF, eqT, eqF, false_or, or_false, not_false_eq_true, not_true_eq_false, gd_T, st_q, cl_q, cl2_q, cxr_q, cxl_q, i10, if_true, if_false, Bool.false_eq_true, e13, ch]
        rfl
      · unfold bCq
        dsimp only
        rw [if_pos (by decide)]
  · intro c hc
    have c13 : c ≠ (13, 1, g) := fun q => hc (Or.inl q)
    have c12 : c ≠ (12, 1, g) := fun q => hc (Or.inr (Or.inl q))
    have c7 : c ≠ (7, 1, g) := fun q => hc (Or.inr (Or.inr q))
    obtain ⟨a1, a2, a3, a4, a5⟩ := x3 c (fun q => q.elim (fun q => q.elim c13 c12) c7)
    obtain ⟨b1, b2, b3, b4, b5⟩ := cpP_X S3 t g 8 c c12
    obtain ⟨d1, d2, d3, d4, d5⟩ := cpQ_X (cpP S3 t g 8) t g 4 c c13
    exact ⟨d1.trans (b1.trans a1), d2.trans (b2.trans a2), d3.trans (b3.trans a3), d4.trans (b4.trans a4), d5.trans (b5.trans a5)⟩
  · rw [(cpQ_I (cpP S3 t g 8) t g 4 _).1, cpP_a S3 t g 8 k hk, o12]
  · rw [cpQ_a, p13, o13, (cpP_X S3 t g 8 _ (kne (show (13 : Nat) ≠ 12 by decide))).2.2.1, q13]
/-- a new game's names -/
theorem game_init (f15 : zV S (15, 0, g) = false) (f14 : zV S (14, 0, g) = false) (f6 : zV S (6, 0, g) = false) (f16 : zV S (16, g, 0) = false) (f3 : zV S (3, g, 0) = false) (i1 : Int32) : ∃ S1, fX2_init S g i1 = some S1 ∧ eqX S S1 (fun d => d = (15, 0, g) ∨ d = (14, 0, g) ∨ d = (6, 0, g) ∨ d = (16, g, 0) ∨ d = (3, g, 0)) ∧ zI S1 (6, 0, g) = (fun k => ([(0 : Int32), (0 : Int32), (0 : Int32), (0 : Int32)] : List Int32).getD k 0) ∧ zI S1 (3, g, 0) = (fun k => ([i1, (0 : Int32), (0 : Int32), (0 : Int32), (0 : Int32), (0 : Int32)] : List Int32).getD k 0) ∧ zV S1 (3, g, 0) = true := by
  unfold fX2_init fX5_init
  rw [gd_t f15, st_s, gd_t (by rw [zV_nw, if_neg (kne (show (14 : Nat) ≠ 15 by decide))]; exact f14), st_s, gd_t (by rw [zV_nw, if_neg (kne (show (6 : Nat) ≠ 14 by decide)), zV_nw, if_neg (kne (show (6 : Nat) ≠ 15 by decide))]; exact f6), st_s, cl_s,
    gd_t (by rw [zV_nw, if_neg (kne (show (16 : Nat) ≠ 6 by decide)), zV_nw, if_neg (kne (show (16 : Nat) ≠ 14 by decide)), zV_nw, if_neg (kne (show (16 : Nat) ≠ 15 by decide))]; exact f16), st_s,
    gd_t (by rw [zV_nw, if_neg (kne (show (3 : Nat) ≠ 16 by decide)), zV_nw, if_neg (kne (show (3 : Nat) ≠ 6 by decide)), zV_nw, if_neg (kne (show (3 : Nat) ≠ 14 by decide)), zV_nw, if_neg (kne (show (3 : Nat) ≠ 15 by decide))]; exact f3), st_s]
  refine ⟨_, rfl, ?_, ?_, by rw [zI_nw, if_pos rfl], zV_nws _ _ _ _ _ _⟩
  · intro c hc
    have c15 : c ≠ (15, 0, g) := fun q => hc (Or.inl q)
    have c14 : c ≠ (14, 0, g) := fun q => hc (Or.inr (Or.inl q))
    have c6 : c ≠ (6, 0, g) := fun q => hc (Or.inr (Or.inr (Or.inl q)))
    have c16 : c ≠ (16, g, 0) := fun q => hc (Or.inr (Or.inr (Or.inr (Or.inl q))))
    have c3 : c ≠ (3, g, 0) := fun q => hc (Or.inr (Or.inr (Or.inr (Or.inr q))))
    refine ⟨?_, ?_, ?_, ?_, ?_⟩
    · rw [zI_nw, if_neg c3, zI_nw, if_neg c16, zI_nw, if_neg c6, zI_nw, if_neg c14, zI_nw, if_neg c15]
    · rw [zL_nw, if_neg c3, zL_nw, if_neg c16, zL_nw, if_neg c6, zL_nw, if_neg c14, zL_nw, if_neg c15]
    · rw [zQ_nw, if_neg c3, zQ_nw, if_neg c16, zQ_nw, if_neg c6, zQ_nw, if_neg c14, zQ_nw, if_neg c15]
    · rw [zN_nw, if_neg c3, zN_nw, if_neg c16, zN_nw, if_neg c6, zN_nw, if_neg c14, zN_nw, if_neg c15]
    · rw [zV_nw, if_neg c3, zV_nw, if_neg c16, zV_nw, if_neg c6, zV_nw, if_neg c14, zV_nw, if_neg c15]
  · rw [zI_nw, if_neg (kne (show (6 : Nat) ≠ 3 by decide)), zI_nw, if_neg (kne (show (6 : Nat) ≠ 16 by decide)), zI_nw, if_pos rfl]
/-- the reference's copies -/
def cmP (M : zMs) (t g : Nat) : Nat → zMs
  | 0 => M
  | k + 1 => pM (cmP M t g k) 28 (8 * g + k) (M 14 (8 * t + k))
def cmQ (M : zMs) (t g : Nat) : Nat → zMs
  | 0 => M
  | k + 1 => pM (pM (pM (pM (pM (cmQ M t g k) 29 (4 * g + k) (M 17 (4 * t + k))) 30 (4 * g + k) (M 18 (4 * t + k))) 31 (4 * g + k) (M 19 (4 * t + k))) 32 (4 * g + k) (M 20 (4 * t + k))) 33 (4 * g + k) (M 21 (4 * t + k))
theorem cmP_o (M : zMs) (t g : Nat) {d : Nat} (hd : d ≠ 28) : ∀ k, cmP M t g k d = M d := by
  intro k
  induction k with
  | zero => rfl
  | succ k ih => exact (pMn hd _ _).trans ih
theorem cmP_a (M : zMs) (t g : Nat) : ∀ n u, cmP M t g n 28 u = if 8 * g ≤ u ∧ u < 8 * g + n then M 14 (8 * t + (u - 8 * g)) else M 28 u := by
  intro n
  induction n with
  | zero => intro u; rw [if_neg (by omega)]; rfl
  | succ n ih =>
    intro u
    show pM (cmP M t g n) 28 (8 * g + n) (M 14 (8 * t + n)) 28 u = _
    rw [pM_at]
    by_cases e : u = 8 * g + n
    · rw [if_pos ⟨rfl, e⟩, if_pos (by omega), show u - 8 * g = n by omega]
    · rw [if_neg (fun q => e q.2), ih u]
      by_cases e2 : 8 * g ≤ u ∧ u < 8 * g + n
      · rw [if_pos e2, if_pos (by omega)]
      · rw [if_neg e2, if_neg (by omega)]
theorem cmQ_o (M : zMs) (t g : Nat) {d : Nat} (hd : d < 29 ∨ 33 < d) : ∀ k, cmQ M t g k d = M d := by
  intro k
  induction k with
  | zero => rfl
  | succ k ih =>
    show pM (pM (pM (pM (pM (cmQ M t g k) 29 _ _) 30 _ _) 31 _ _) 32 _ _) 33 _ _ d = _
    simp (disch := omega) only [pMn]
    exact ih
theorem cmQ_29 (M : zMs) (t g : Nat) : ∀ n u, cmQ M t g n 29 u = if 4 * g ≤ u ∧ u < 4 * g + n then M 17 (4 * t + (u - 4 * g)) else M 29 u := by
  intro n
  induction n with
  | zero => intro u; rw [if_neg (by omega)]; rfl
  | succ n ih =>
    intro u
    show pM (pM (pM (pM (pM (cmQ M t g n) 29 (4 * g + n) (M 17 (4 * t + n))) 30 (4 * g + n) (M 18 (4 * t + n))) 31 (4 * g + n) (M 19 (4 * t + n))) 32 (4 * g + n) (M 20 (4 * t + n))) 33 (4 * g + n) (M 21 (4 * t + n)) 29 u = _
    try simp (disch := omega) only [pMn]
    rw [pM_at]
    by_cases e : u = 4 * g + n
    · rw [if_pos ⟨rfl, e⟩, if_pos (by omega), show u - 4 * g = n by omega]
    · rw [if_neg (fun q => e q.2)]
      try simp (disch := omega) only [pMn]
      rw [ih u]
      by_cases e2 : 4 * g ≤ u ∧ u < 4 * g + n
      · rw [if_pos e2, if_pos (by omega)]
      · rw [if_neg e2, if_neg (by omega)]
theorem cmQ_30 (M : zMs) (t g : Nat) : ∀ n u, cmQ M t g n 30 u = if 4 * g ≤ u ∧ u < 4 * g + n then M 18 (4 * t + (u - 4 * g)) else M 30 u := by
  intro n
  induction n with
  | zero => intro u; rw [if_neg (by omega)]; rfl
  | succ n ih =>
    intro u
    show pM (pM (pM (pM (pM (cmQ M t g n) 29 (4 * g + n) (M 17 (4 * t + n))) 30 (4 * g + n) (M 18 (4 * t + n))) 31 (4 * g + n) (M 19 (4 * t + n))) 32 (4 * g + n) (M 20 (4 * t + n))) 33 (4 * g + n) (M 21 (4 * t + n)) 30 u = _
    try simp (disch := omega) only [pMn]
    rw [pM_at]
    by_cases e : u = 4 * g + n
    · rw [if_pos ⟨rfl, e⟩, if_pos (by omega), show u - 4 * g = n by omega]
    · rw [if_neg (fun q => e q.2)]
      try simp (disch := omega) only [pMn]
      rw [ih u]
      by_cases e2 : 4 * g ≤ u ∧ u < 4 * g + n
      · rw [if_pos e2, if_pos (by omega)]
      · rw [if_neg e2, if_neg (by omega)]
theorem cmQ_31 (M : zMs) (t g : Nat) : ∀ n u, cmQ M t g n 31 u = if 4 * g ≤ u ∧ u < 4 * g + n then M 19 (4 * t + (u - 4 * g)) else M 31 u := by
  intro n
  induction n with
  | zero => intro u; rw [if_neg (by omega)]; rfl
  | succ n ih =>
    intro u
    show pM (pM (pM (pM (pM (cmQ M t g n) 29 (4 * g + n) (M 17 (4 * t + n))) 30 (4 * g + n) (M 18 (4 * t + n))) 31 (4 * g + n) (M 19 (4 * t + n))) 32 (4 * g + n) (M 20 (4 * t + n))) 33 (4 * g + n) (M 21 (4 * t + n)) 31 u = _
    try simp (disch := omega) only [pMn]
    rw [pM_at]
    by_cases e : u = 4 * g + n
    · rw [if_pos ⟨rfl, e⟩, if_pos (by omega), show u - 4 * g = n by omega]
    · rw [if_neg (fun q => e q.2)]
      try simp (disch := omega) only [pMn]
      rw [ih u]
      by_cases e2 : 4 * g ≤ u ∧ u < 4 * g + n
      · rw [if_pos e2, if_pos (by omega)]
      · rw [if_neg e2, if_neg (by omega)]
theorem cmQ_32 (M : zMs) (t g : Nat) : ∀ n u, cmQ M t g n 32 u = if 4 * g ≤ u ∧ u < 4 * g + n then M 20 (4 * t + (u - 4 * g)) else M 32 u := by
  intro n
  induction n with
  | zero => intro u; rw [if_neg (by omega)]; rfl
  | succ n ih =>
    intro u
    show pM (pM (pM (pM (pM (cmQ M t g n) 29 (4 * g + n) (M 17 (4 * t + n))) 30 (4 * g + n) (M 18 (4 * t + n))) 31 (4 * g + n) (M 19 (4 * t + n))) 32 (4 * g + n) (M 20 (4 * t + n))) 33 (4 * g + n) (M 21 (4 * t + n)) 32 u = _
    try simp (disch := omega) only [pMn]
    rw [pM_at]
    by_cases e : u = 4 * g + n
    · rw [if_pos ⟨rfl, e⟩, if_pos (by omega), show u - 4 * g = n by omega]
    · rw [if_neg (fun q => e q.2)]
      try simp (disch := omega) only [pMn]
      rw [ih u]
      by_cases e2 : 4 * g ≤ u ∧ u < 4 * g + n
      · rw [if_pos e2, if_pos (by omega)]
      · rw [if_neg e2, if_neg (by omega)]
theorem cmQ_33 (M : zMs) (t g : Nat) : ∀ n u, cmQ M t g n 33 u = if 4 * g ≤ u ∧ u < 4 * g + n then M 21 (4 * t + (u - 4 * g)) else M 33 u := by
  intro n
  induction n with
  | zero => intro u; rw [if_neg (by omega)]; rfl
  | succ n ih =>
    intro u
    show pM (pM (pM (pM (pM (cmQ M t g n) 29 (4 * g + n) (M 17 (4 * t + n))) 30 (4 * g + n) (M 18 (4 * t + n))) 31 (4 * g + n) (M 19 (4 * t + n))) 32 (4 * g + n) (M 20 (4 * t + n))) 33 (4 * g + n) (M 21 (4 * t + n)) 33 u = _
    try simp (disch := omega) only [pMn]
    rw [pM_at]
    by_cases e : u = 4 * g + n
    · rw [if_pos ⟨rfl, e⟩, if_pos (by omega), show u - 4 * g = n by omega]
    · rw [if_neg (fun q => e q.2)]
      try simp (disch := omega) only [pMn]
      rw [ih u]
      by_cases e2 : 4 * g ≤ u ∧ u < 4 * g + n
      · rw [if_pos e2, if_pos (by omega)]
      · rw [if_neg e2, if_neg (by omega)]
def mCo (M : zMs) (t g : Nat) : zMs := pM (cmQ (cmP (pM (pM (pM M 0 0 0) 25 g (nI t)) 26 g 3) t g 8) t g 4) 24 0 (nI (g + 1))
theorem mCo_o (M : zMs) (t g k : Nat) (h : k ≠ 0 ∧ k ≠ 24 ∧ k ≠ 25 ∧ k ≠ 26 ∧ (k < 28 ∨ 33 < k)) : mCo M t g k = M k := by
  unfold mCo
  rw [pMn (by omega), cmQ_o _ _ _ (by omega), cmP_o _ _ _ (by omega)]
  simp (disch := omega) only [pMn]
theorem mCo_24 (M : zMs) (t g : Nat) : mCo M t g 24 0 = nI (g + 1) := by
  unfold mCo
  rw [pM_s]
theorem mCo_25 (M : zMs) (t g u : Nat) : mCo M t g 25 u = if u = g then nI t else M 25 u := by
  unfold mCo
  rw [pMn (by omega), cmQ_o _ _ _ (by omega), cmP_o _ _ _ (by omega), pMn (by omega), pM_at]
  by_cases e : u = g
  · rw [if_pos ⟨rfl, e⟩, if_pos e]
  · rw [if_neg (fun q => e q.2), if_neg e, pMn (by omega)]
theorem mCo_26 (M : zMs) (t g u : Nat) : mCo M t g 26 u = if u = g then 3 else M 26 u := by
  unfold mCo
  rw [pMn (by omega), cmQ_o _ _ _ (by omega), cmP_o _ _ _ (by omega), pM_at]
  by_cases e : u = g
  · rw [if_pos ⟨rfl, e⟩, if_pos e]
  · rw [if_neg (fun q => e q.2), if_neg e, pMn (by omega), pMn (by omega)]
theorem mCo_28 (M : zMs) (t g u : Nat) : mCo M t g 28 u = if 8 * g ≤ u ∧ u < 8 * g + 8 then M 14 (8 * t + (u - 8 * g)) else M 28 u := by
  unfold mCo
  rw [pMn (by omega), cmQ_o _ _ _ (by omega), cmP_a]
  simp (disch := omega) only [pMn]
theorem mCo_29 (M : zMs) (t g u : Nat) : mCo M t g 29 u = if 4 * g ≤ u ∧ u < 4 * g + 4 then M 17 (4 * t + (u - 4 * g)) else M 29 u := by
  unfold mCo
  rw [pMn (by omega), cmQ_29, cmP_o _ _ _ (by omega), cmP_o _ _ _ (by omega)]
  simp (disch := omega) only [pMn]
theorem mCo_30 (M : zMs) (t g u : Nat) : mCo M t g 30 u = if 4 * g ≤ u ∧ u < 4 * g + 4 then M 18 (4 * t + (u - 4 * g)) else M 30 u := by
  unfold mCo
  rw [pMn (by omega), cmQ_30, cmP_o _ _ _ (by omega), cmP_o _ _ _ (by omega)]
  simp (disch := omega) only [pMn]
theorem mCo_31 (M : zMs) (t g u : Nat) : mCo M t g 31 u = if 4 * g ≤ u ∧ u < 4 * g + 4 then M 19 (4 * t + (u - 4 * g)) else M 31 u := by
  unfold mCo
  rw [pMn (by omega), cmQ_31, cmP_o _ _ _ (by omega), cmP_o _ _ _ (by omega)]
  simp (disch := omega) only [pMn]
theorem mCo_32 (M : zMs) (t g u : Nat) : mCo M t g 32 u = if 4 * g ≤ u ∧ u < 4 * g + 4 then M 20 (4 * t + (u - 4 * g)) else M 32 u := by
  unfold mCo
  rw [pMn (by omega), cmQ_32, cmP_o _ _ _ (by omega), cmP_o _ _ _ (by omega)]
  simp (disch := omega) only [pMn]
theorem mCo_33 (M : zMs) (t g u : Nat) : mCo M t g 33 u = if 4 * g ≤ u ∧ u < 4 * g + 4 then M 21 (4 * t + (u - 4 * g)) else M 33 u := by
  unfold mCo
  rw [pMn (by omega), cmQ_33, cmP_o _ _ _ (by omega), cmP_o _ _ _ (by omega)]
  simp (disch := omega) only [pMn]
def pCo (g : Nat) (c : zId) : Prop := (c = (13, 1, g) ∨ c = (12, 1, g) ∨ c = (7, 1, g)) ∨ (c = (15, 0, g) ∨ c = (14, 0, g) ∨ c = (6, 0, g) ∨ c = (16, g, 0) ∨ c = (3, g, 0)) ∨ ((c.1 = 0 ∨ c.1 = 23) ∧ c.2.1 = 1)
theorem co_n (h40 : g < 40) : nT (mCo M t g) = nT M ∧ (∀ u, nB (mCo M t g) u = nB M u) ∧ nG (mCo M t g) = g + 1 ∧ nS (mCo M t g) = nS M ∧ (∀ u, nD (mCo M t g) u = nD M u) ∧ ∀ u, nL (mCo M t g) u = if u = g then 3 else nL M u := by
  refine ⟨by unfold nT; rw [mCo_o _ _ _ 1 (by omega)], fun u => by unfold nB; rw [mCo_o _ _ _ 8 (by omega)], by unfold nG; rw [mCo_24]; exact nI_clamp (by omega), by unfold nS; rw [mCo_o _ _ _ 22 (by omega)], fun u => by unfold nD; rw [mCo_o _ _ _ 34 (by omega)], fun u => ?_⟩
  unfold nL
  rw [mCo_26]
  by_cases e : u = g
  · rw [if_pos e, if_pos e]; rfl
  · rw [if_neg e, if_neg e]
theorem co_wm (h : WM M) (ht : t < nT M) (hg : g = nG M) (h40 : g < 40) : WM (mCo M t g) := by
  have hT6 := nT6 h
  obtain ⟨eT, eB, eG, eS, eD, eL⟩ := co_n (M := M) (t := t) h40
  obtain ⟨w1, w2, w3, w4, w5, w6, w7, w8, w9, w10, w11, w12⟩ := h
  have m (k : Nat) (hk : k ≠ 0 ∧ k ≠ 24 ∧ k ≠ 25 ∧ k ≠ 26 ∧ (k < 28 ∨ 33 < k)) : mCo M t g k = M k := mCo_o M t g k hk
  unfold WM
  rw [m 1 (by omega), m 22 (by omega), m 8 (by omega), m 4 (by omega), m 5 (by omega), m 6 (by omega), m 2 (by omega), m 7 (by omega), m 9 (by omega), m 10 (by omega), m 11 (by omega), m 12 (by omega), m 13 (by omega), m 16 (by omega), m 15 (by omega), m 14 (by omega), m 17 (by omega), m 18 (by omega), m 19 (by omega), m 20 (by omega), m 21 (by omega), m 27 (by omega), m 34 (by omega), m 49 (by omega), m 50 (by omega), m 23 (by omega), eT, eG, eS, mCo_24]
  refine ⟨w1, ⟨g + 1, Nat.zero_le _, by omega, rfl⟩, w3, w4, fun u hu => ⟨(w5 u hu).1, ?_⟩, fun u k hu hk => ?_, w7, w8, fun u hu => ⟨fun hn => ?_, fun hn => (w9 u hu).2 (by omega)⟩, w10, w11, w12⟩
  · rcases (w5 u hu).2 with q | ⟨q, q1, q2, q3, q4⟩
    · exact Or.inl q
    · exact Or.inr ⟨q, by omega, q2, by rw [mCo_25, if_neg (by omega)]; exact q3, by rw [eL, if_neg (by omega)]; exact q4⟩
  · rw [eB]; exact w6 u k hu hk
  · by_cases e : u = g
    · subst e
      obtain ⟨z27, z34⟩ := (w9 u hu).2 (by omega)
      have d0 : nD M u = 0 := by unfold nD; rw [z34]; rfl
      refine ⟨⟨t, by rw [eT]; exact ht, by rw [mCo_25, if_pos rfl]⟩, by rw [mCo_26, if_pos rfl]; exact ⟨3, by omega, by omega, by decide⟩, by rw [m 34 (by omega), z34]; exact ⟨0, by omega, by omega, nI_0.symm⟩, fun k hk => ?_, fun k hk => ?_, fun j hj => ?_, fun b hb => ?_⟩
      · rw [eD, d0] at hk; omega
      · rw [mCo_28, if_pos (by omega), show 8 * u + k - 8 * u = k by omega]
        exact (w7 t k (by omega) hk).1
      · rw [mCo_29, mCo_30, mCo_31, mCo_32, mCo_33, if_pos (by omega), if_pos (by omega), if_pos (by omega), if_pos (by omega), if_pos (by omega), show 4 * u + j - 4 * u = j by omega]
        exact (w8 t j (by omega) hj).1
      · rw [eL, if_pos rfl] at hb; omega
    · refine gm_mono ((w9 u hu).1 (by omega)) (by rw [eT]; exact Nat.le_refl _) (by rw [mCo_25, if_neg e]) (by rw [mCo_26, if_neg e]) (congrFun (m 34 (by omega)) u) (fun k _ => congrFun (m 35 (by omega)) _) (fun k hk => by rw [mCo_28, if_neg (by omega)]) (fun k hk => ⟨by rw [mCo_29, if_neg (by omega)], by rw [mCo_30, if_neg (by omega)], by rw [mCo_31, if_neg (by omega)], by rw [mCo_32, if_neg (by omega)], by rw [mCo_33, if_neg (by omega)]⟩) (m 37 (by omega)) (m 38 (by omega)) (m 39 (by omega))
theorem co_ag (h : Tie S M) (ht : t < nT M) (hg : g = nG M) (h40 : g < 40) (F : fY S S2 (pCo g)) (l2 : zLs S2 1 (g + 1)) (I3 : zI S2 (3, g, 0) = (fun k => ([nI t, (0 : Int32), (0 : Int32), (0 : Int32), (0 : Int32), (0 : Int32)] : List Int32).getD k 0)) (I6 : zI S2 (6, 0, g) = (fun k => ([(0 : Int32), (0 : Int32), (0 : Int32), (0 : Int32)] : List Int32).getD k 0)) (I12 : ∀ k, k < 8 → zI S2 (12, 1, g) k = zI S (12, 0, t) k) (Q13 : ∀ k, k < 4 → zQ S2 (13, 1, g) k = zQ S (13, 0, t) k) : AG S2 (mCo M t g) := by
  have hT6 := nT6 h.1
  obtain ⟨eT, eB, eG, eS, eD, eL⟩ := co_n (M := M) (t := t) h40
  have h4 : ∀ n, ¬ pCo g (4, n, 0) := fun n => (by unfold pCo; simp only [Prod.mk.injEq]; omega)
  have z := (h.1.2.2.2.2.2.2.2.2.1 g h40).2 (by omega)
  have d0 : nD M g = 0 := by unfold nD; rw [z.2]; rfl
  have m (k : Nat) (hk : k ≠ 0 ∧ k ≠ 24 ∧ k ≠ 25 ∧ k ≠ 26 ∧ (k < 28 ∨ 33 < k)) : mCo M t g k = M k := mCo_o M t g k hk
  have i4 : ∀ n, zI S2 (4, n, 0) = zI S (4, n, 0) := fun n => (F _ (h4 n)).1 (by decide : (4 : Nat) ≠ 23)
  have old : ∀ k i, dom M k i → mCo M t g k i = M k i → ¬ pCo g (rC k i) → vS S2 k i = mCo M t g k i := by
    intro k i hd hm hp
    rw [vS_fY F hp (fun _ n _ _ => h4 n), hm]
    exact h.2.1 k i hd
  intro k i hd
  match k, hd with
  | 0, hd => exact hd.elim
  | 1, hd => exact old 1 i (show dom M 1 i from (show i = 0 from hd)) (congrFun (m 1 (by omega)) i) (show ¬ pCo g (0, 0, 0) from (by unfold pCo; simp only [Prod.mk.injEq]; omega))
  | 2, hd => exact old 2 i (by have hd : i < nT (mCo M t g) := hd; rw [eT] at hd; exact hd) (congrFun (m 2 (by omega)) i) (show ¬ pCo g (8, i, 0) from (by unfold pCo; simp only [Prod.mk.injEq]; omega))
  | 3, hd => exact old 3 i (by have hd : i < nT (mCo M t g) := hd; rw [eT] at hd; exact hd) (congrFun (m 3 (by omega)) i) (show ¬ pCo g (8, i, 0) from (by unfold pCo; simp only [Prod.mk.injEq]; omega))
  | 4, hd => exact old 4 i (by have hd : i < nT (mCo M t g) := hd; rw [eT] at hd; exact hd) (congrFun (m 4 (by omega)) i) (show ¬ pCo g (8, i, 0) from (by unfold pCo; simp only [Prod.mk.injEq]; omega))
  | 5, hd => exact old 5 i (by have hd : i < nT (mCo M t g) := hd; rw [eT] at hd; exact hd) (congrFun (m 5 (by omega)) i) (show ¬ pCo g (8, i, 0) from (by unfold pCo; simp only [Prod.mk.injEq]; omega))
  | 6, hd => exact old 6 i (by have hd : i < nT (mCo M t g) := hd; rw [eT] at hd; exact hd) (congrFun (m 6 (by omega)) i) (show ¬ pCo g (8, i, 0) from (by unfold pCo; simp only [Prod.mk.injEq]; omega))
  | 7, hd => exact old 7 i (by have hd : i < nT (mCo M t g) := hd; rw [eT] at hd; exact hd) (congrFun (m 7 (by omega)) i) (show ¬ pCo g (8, i, 0) from (by unfold pCo; simp only [Prod.mk.injEq]; omega))
  | 8, hd => exact old 8 i (by have hd : i < nT (mCo M t g) := hd; rw [eT] at hd; exact hd) (congrFun (m 8 (by omega)) i) (show ¬ pCo g (0, i + 2, 0) from (by unfold pCo; simp only [Prod.mk.injEq]; omega))
  | 9, hd => exact old 9 i (by have hd : i / 8 < nT (mCo M t g) ∧ i % 8 < nB (mCo M t g) (i / 8) := hd; rw [eT, eB] at hd; exact hd) (congrFun (m 9 (by omega)) i) (show ¬ pCo g (2, i / 8, i % 8) from (by unfold pCo; simp only [Prod.mk.injEq]; omega))
  | 10, hd => exact old 10 i (by have hd : i / 8 < nT (mCo M t g) ∧ i % 8 < nB (mCo M t g) (i / 8) := hd; rw [eT, eB] at hd; exact hd) (congrFun (m 10 (by omega)) i) (show ¬ pCo g (2, i / 8, i % 8) from (by unfold pCo; simp only [Prod.mk.injEq]; omega))
  | 11, hd => exact old 11 i (by have hd : i / 8 < nT (mCo M t g) ∧ i % 8 < nB (mCo M t g) (i / 8) := hd; rw [eT, eB] at hd; exact hd) (congrFun (m 11 (by omega)) i) (show ¬ pCo g (2, i / 8, i % 8) from (by unfold pCo; simp only [Prod.mk.injEq]; omega))
  | 12, hd => exact old 12 i (by have hd : i / 8 < nT (mCo M t g) ∧ i % 8 < nB (mCo M t g) (i / 8) := hd; rw [eT, eB] at hd; exact hd) (congrFun (m 12 (by omega)) i) (show ¬ pCo g (2, i / 8, i % 8) from (by unfold pCo; simp only [Prod.mk.injEq]; omega))
  | 13, hd => exact old 13 i (by have hd : i / 8 < nT (mCo M t g) ∧ i % 8 < nB (mCo M t g) (i / 8) := hd; rw [eT, eB] at hd; exact hd) (congrFun (m 13 (by omega)) i) (show ¬ pCo g (2, i / 8, i % 8) from (by unfold pCo; simp only [Prod.mk.injEq]; omega))
  | 14, hd => exact old 14 i (by have hd : i / 8 < nT (mCo M t g) := hd; rw [eT] at hd; exact hd) (congrFun (m 14 (by omega)) i) (show ¬ pCo g (12, 0, i / 8) from (by unfold pCo; simp only [Prod.mk.injEq]; omega))
  | 15, hd => exact old 15 i (by have hd : i / 8 < nT (mCo M t g) ∧ i % 8 < nB (mCo M t g) (i / 8) := hd; rw [eT, eB] at hd; exact hd) (congrFun (m 15 (by omega)) i) (show ¬ pCo g (2, i / 8, i % 8) from (by unfold pCo; simp only [Prod.mk.injEq]; omega))
  | 16, hd => exact old 16 i (by have hd : i / 8 < nT (mCo M t g) ∧ i % 8 < nB (mCo M t g) (i / 8) := hd; rw [eT, eB] at hd; exact hd) (congrFun (m 16 (by omega)) i) (show ¬ pCo g (2, i / 8, i % 8) from (by unfold pCo; simp only [Prod.mk.injEq]; omega))
  | 17, hd => exact old 17 i (by have hd : i / 4 < nT (mCo M t g) := hd; rw [eT] at hd; exact hd) (congrFun (m 17 (by omega)) i) (show ¬ pCo g (13, 0, i / 4) from (by unfold pCo; simp only [Prod.mk.injEq]; omega))
  | 18, hd => exact old 18 i (by have hd : i / 4 < nT (mCo M t g) ∧ mCo M t g 17 i ≠ -1 := hd; rw [eT, m 17 (by omega)] at hd; exact hd) (congrFun (m 18 (by omega)) i) (show ¬ pCo g (13, 0, i / 4) from (by unfold pCo; simp only [Prod.mk.injEq]; omega))
  | 19, hd => exact old 19 i (by have hd : i / 4 < nT (mCo M t g) ∧ mCo M t g 17 i ≠ -1 := hd; rw [eT, m 17 (by omega)] at hd; exact hd) (congrFun (m 19 (by omega)) i) (show ¬ pCo g (13, 0, i / 4) from (by unfold pCo; simp only [Prod.mk.injEq]; omega))
  | 20, hd => exact old 20 i (by have hd : i / 4 < nT (mCo M t g) ∧ mCo M t g 17 i ≠ -1 := hd; rw [eT, m 17 (by omega)] at hd; exact hd) (congrFun (m 20 (by omega)) i) (show ¬ pCo g (13, 0, i / 4) from (by unfold pCo; simp only [Prod.mk.injEq]; omega))
  | 21, hd => exact old 21 i (by have hd : i / 4 < nT (mCo M t g) ∧ mCo M t g 17 i ≠ -1 := hd; rw [eT, m 17 (by omega)] at hd; exact hd) (congrFun (m 21 (by omega)) i) (show ¬ pCo g (13, 0, i / 4) from (by unfold pCo; simp only [Prod.mk.injEq]; omega))
  | 22, hd => exact old 22 i (show dom M 22 i from (show i = 0 from hd)) (congrFun (m 22 (by omega)) i) (show ¬ pCo g (10, 0, 0) from (by unfold pCo; simp only [Prod.mk.injEq]; omega))
  | 23, hd => exact old 23 i (show dom M 23 i from (show i < 60 from hd)) (congrFun (m 23 (by omega)) i) (show ¬ pCo g (21, 0, 0) from (by unfold pCo; simp only [Prod.mk.injEq]; omega))
  | 24, hd =>
    have hi : i = 0 := hd
    show zI S2 (0, 1, 0) 2 = mCo M t g 24 i
    rw [hi, mCo_24, l2.1]
  | 25, hd =>
    have hd : i < nG (mCo M t g) := hd
    rw [eG] at hd
    by_cases e : i = g
    · show zI S2 (3, i, 0) 0 = mCo M t g 25 i
      rw [e, I3, mCo_25, if_pos rfl]
      rfl
    · exact old 25 i (show i < nG M by omega) (by rw [mCo_25, if_neg e]) (show ¬ pCo g (3, i, 0) from (by unfold pCo; simp only [Prod.mk.injEq]; omega))
  | 26, hd =>
    have hd : i < nG (mCo M t g) := hd
    rw [eG] at hd
    by_cases e : i = g
    · show 3 - zI S2 (3, i, 0) 5 = mCo M t g 26 i
      rw [e, I3, mCo_26, if_pos rfl]
      show (3 : Int32) - 0 = 3
      decide
    · exact old 26 i (show i < nG M by omega) (by rw [mCo_26, if_neg e]) (show ¬ pCo g (3, i, 0) from (by unfold pCo; simp only [Prod.mk.injEq]; omega))
  | 27, hd =>
    have hd : i < nG (mCo M t g) := hd
    rw [eG] at hd
    by_cases e : i = g
    · show zI S2 (6, 0, i) 3 = mCo M t g 27 i
      rw [e, I6, m 27 (by omega), z.1]
      rfl
    · exact old 27 i (show i < nG M by omega) (congrFun (m 27 (by omega)) i) (show ¬ pCo g (6, 0, i) from (by unfold pCo; simp only [Prod.mk.injEq]; omega))
  | 28, hd =>
    have hd : i / 8 < nG (mCo M t g) := hd
    rw [eG] at hd
    by_cases e : i / 8 = g
    · show zI S2 (12, 1, i / 8) (i % 8) = mCo M t g 28 i
      rw [e, I12 _ (Nat.mod_lt _ (by decide)), mCo_28, if_pos (by omega), show 8 * t + (i - 8 * g) = 8 * t + i % 8 by omega]
      have e8 := dm8 (t := t) (Nat.mod_lt i (show 0 < 8 by decide))
      rw [← ag h 14 (8 * t + i % 8) (show (8 * t + i % 8) / 8 < nT M by rw [e8.1]; exact ht)]
      show _ = zI S (12, 0, (8 * t + i % 8) / 8) ((8 * t + i % 8) % 8)
      rw [e8.1, e8.2]
    · exact old 28 i (show i / 8 < nG M by omega) (by rw [mCo_28, if_neg (by omega)]) (show ¬ pCo g (12, 1, i / 8) from (by unfold pCo; simp only [Prod.mk.injEq]; omega))
  | 29, hd =>
    have hd : i / 4 < nG (mCo M t g) := hd
    rw [eG] at hd
    by_cases e : i / 4 = g
    · show vMd S2 (13, 1, i / 4) (i % 4) 0 (-1) = mCo M t g 29 i
      have e4 := dm4 (t := t) (Nat.mod_lt i (show 0 < 4 by decide))
      have hq := Q13 (i % 4) (Nat.mod_lt _ (by decide))
      have hv : vMd S2 (13, 1, g) (i % 4) 0 (-1) = vMd S (13, 0, t) (i % 4) 0 (-1) := by
        unfold vMd
        rw [hq]
        cases zQ S (13, 0, t) (i % 4) with
        | none => rfl
        | some n =>
          show (if zI S2 (4, n, 0) 0 = -1 then -2 else zI S2 (4, n, 0) 0) = (if zI S (4, n, 0) 0 = -1 then (-2 : Int32) else zI S (4, n, 0) 0)
          rw [i4 n]
      rw [e, hv, mCo_29, if_pos (by omega), show 4 * t + (i - 4 * g) = 4 * t + i % 4 by omega]
      rw [← ag h 17 (4 * t + i % 4) (show (4 * t + i % 4) / 4 < nT M by rw [e4.1]; exact ht)]
      show _ = vMd S (13, 0, (4 * t + i % 4) / 4) ((4 * t + i % 4) % 4) 0 (-1)
      rw [e4.1, e4.2]
    · exact old 29 i (show i / 4 < nG M by omega) (by rw [mCo_29, if_neg (by omega)]) (show ¬ pCo g (13, 1, i / 4) from (by unfold pCo; simp only [Prod.mk.injEq]; omega))
  | 30, hd =>
    have hd : i / 4 < nG (mCo M t g) ∧ mCo M t g 29 i ≠ -1 := hd
    rw [eG] at hd
    by_cases e : i / 4 = g
    · show vMd S2 (13, 1, i / 4) (i % 4) 1 0 = mCo M t g 30 i
      have e4 := dm4 (t := t) (Nat.mod_lt i (show 0 < 4 by decide))
      have hq := Q13 (i % 4) (Nat.mod_lt _ (by decide))
      have hv : vMd S2 (13, 1, g) (i % 4) 1 0 = vMd S (13, 0, t) (i % 4) 1 0 := by
        unfold vMd
        rw [hq]
        cases zQ S (13, 0, t) (i % 4) with
        | none => rfl
        | some n =>
          show (if zI S2 (4, n, 0) 1 = -1 then -2 else zI S2 (4, n, 0) 1) = (if zI S (4, n, 0) 1 = -1 then (-2 : Int32) else zI S (4, n, 0) 1)
          rw [i4 n]
      rw [e, hv, mCo_30, if_pos (by omega), show 4 * t + (i - 4 * g) = 4 * t + i % 4 by omega]
      rw [← ag h 18 (4 * t + i % 4) (show (4 * t + i % 4) / 4 < nT M ∧ M 17 (4 * t + i % 4) ≠ -1 from ⟨by rw [e4.1]; exact ht, by have := hd.2; rw [mCo_29, if_pos (by omega), show 4 * t + (i - 4 * g) = 4 * t + i % 4 by omega] at this; exact this⟩)]
      show _ = vMd S (13, 0, (4 * t + i % 4) / 4) ((4 * t + i % 4) % 4) 1 0
      rw [e4.1, e4.2]
    · exact old 30 i (show i / 4 < nG M ∧ M 29 i ≠ -1 from ⟨by omega, by have := hd.2; rw [mCo_29, if_neg (by omega)] at this; exact this⟩) (by rw [mCo_30, if_neg (by omega)]) (show ¬ pCo g (13, 1, i / 4) from (by unfold pCo; simp only [Prod.mk.injEq]; omega))
  | 31, hd =>
    have hd : i / 4 < nG (mCo M t g) ∧ mCo M t g 29 i ≠ -1 := hd
    rw [eG] at hd
    by_cases e : i / 4 = g
    · show vMd S2 (13, 1, i / 4) (i % 4) 2 0 = mCo M t g 31 i
      have e4 := dm4 (t := t) (Nat.mod_lt i (show 0 < 4 by decide))
      have hq := Q13 (i % 4) (Nat.mod_lt _ (by decide))
      have hv : vMd S2 (13, 1, g) (i % 4) 2 0 = vMd S (13, 0, t) (i % 4) 2 0 := by
        unfold vMd
        rw [hq]
        cases zQ S (13, 0, t) (i % 4) with
        | none => rfl
        | some n =>
          show (if zI S2 (4, n, 0) 2 = -1 then -2 else zI S2 (4, n, 0) 2) = (if zI S (4, n, 0) 2 = -1 then (-2 : Int32) else zI S (4, n, 0) 2)
          rw [i4 n]
      rw [e, hv, mCo_31, if_pos (by omega), show 4 * t + (i - 4 * g) = 4 * t + i % 4 by omega]
      rw [← ag h 19 (4 * t + i % 4) (show (4 * t + i % 4) / 4 < nT M ∧ M 17 (4 * t + i % 4) ≠ -1 from ⟨by rw [e4.1]; exact ht, by have := hd.2; rw [mCo_29, if_pos (by omega), show 4 * t + (i - 4 * g) = 4 * t + i % 4 by omega] at this; exact this⟩)]
      show _ = vMd S (13, 0, (4 * t + i % 4) / 4) ((4 * t + i % 4) % 4) 2 0
      rw [e4.1, e4.2]
    · exact old 31 i (show i / 4 < nG M ∧ M 29 i ≠ -1 from ⟨by omega, by have := hd.2; rw [mCo_29, if_neg (by omega)] at this; exact this⟩) (by rw [mCo_31, if_neg (by omega)]) (show ¬ pCo g (13, 1, i / 4) from (by unfold pCo; simp only [Prod.mk.injEq]; omega))
  | 32, hd =>
    have hd : i / 4 < nG (mCo M t g) ∧ mCo M t g 29 i ≠ -1 := hd
    rw [eG] at hd
    by_cases e : i / 4 = g
    · show vMd S2 (13, 1, i / 4) (i % 4) 3 0 = mCo M t g 32 i
      have e4 := dm4 (t := t) (Nat.mod_lt i (show 0 < 4 by decide))
      have hq := Q13 (i % 4) (Nat.mod_lt _ (by decide))
      have hv : vMd S2 (13, 1, g) (i % 4) 3 0 = vMd S (13, 0, t) (i % 4) 3 0 := by
        unfold vMd
        rw [hq]
        cases zQ S (13, 0, t) (i % 4) with
        | none => rfl
        | some n =>
          show (if zI S2 (4, n, 0) 3 = -1 then -2 else zI S2 (4, n, 0) 3) = (if zI S (4, n, 0) 3 = -1 then (-2 : Int32) else zI S (4, n, 0) 3)
          rw [i4 n]
      rw [e, hv, mCo_32, if_pos (by omega), show 4 * t + (i - 4 * g) = 4 * t + i % 4 by omega]
      rw [← ag h 20 (4 * t + i % 4) (show (4 * t + i % 4) / 4 < nT M ∧ M 17 (4 * t + i % 4) ≠ -1 from ⟨by rw [e4.1]; exact ht, by have := hd.2; rw [mCo_29, if_pos (by omega), show 4 * t + (i - 4 * g) = 4 * t + i % 4 by omega] at this; exact this⟩)]
      show _ = vMd S (13, 0, (4 * t + i % 4) / 4) ((4 * t + i % 4) % 4) 3 0
      rw [e4.1, e4.2]
    · exact old 32 i (show i / 4 < nG M ∧ M 29 i ≠ -1 from ⟨by omega, by have := hd.2; rw [mCo_29, if_neg (by omega)] at this; exact this⟩) (by rw [mCo_32, if_neg (by omega)]) (show ¬ pCo g (13, 1, i / 4) from (by unfold pCo; simp only [Prod.mk.injEq]; omega))
  | 33, hd =>
    have hd : i / 4 < nG (mCo M t g) ∧ mCo M t g 29 i ≠ -1 := hd
    rw [eG] at hd
    by_cases e : i / 4 = g
    · show vMd S2 (13, 1, i / 4) (i % 4) 4 0 = mCo M t g 33 i
      have e4 := dm4 (t := t) (Nat.mod_lt i (show 0 < 4 by decide))
      have hq := Q13 (i % 4) (Nat.mod_lt _ (by decide))
      have hv : vMd S2 (13, 1, g) (i % 4) 4 0 = vMd S (13, 0, t) (i % 4) 4 0 := by
        unfold vMd
        rw [hq]
        cases zQ S (13, 0, t) (i % 4) with
        | none => rfl
        | some n =>
          show (if zI S2 (4, n, 0) 4 = -1 then -2 else zI S2 (4, n, 0) 4) = (if zI S (4, n, 0) 4 = -1 then (-2 : Int32) else zI S (4, n, 0) 4)
          rw [i4 n]
      rw [e, hv, mCo_33, if_pos (by omega), show 4 * t + (i - 4 * g) = 4 * t + i % 4 by omega]
      rw [← ag h 21 (4 * t + i % 4) (show (4 * t + i % 4) / 4 < nT M ∧ M 17 (4 * t + i % 4) ≠ -1 from ⟨by rw [e4.1]; exact ht, by have := hd.2; rw [mCo_29, if_pos (by omega), show 4 * t + (i - 4 * g) = 4 * t + i % 4 by omega] at this; exact this⟩)]
      show _ = vMd S (13, 0, (4 * t + i % 4) / 4) ((4 * t + i % 4) % 4) 4 0
      rw [e4.1, e4.2]
    · exact old 33 i (show i / 4 < nG M ∧ M 29 i ≠ -1 from ⟨by omega, by have := hd.2; rw [mCo_29, if_neg (by omega)] at this; exact this⟩) (by rw [mCo_33, if_neg (by omega)]) (show ¬ pCo g (13, 1, i / 4) from (by unfold pCo; simp only [Prod.mk.injEq]; omega))
  | 34, hd =>
    have hd : i < nG (mCo M t g) := hd
    rw [eG] at hd
    by_cases e : i = g
    · show zI S2 (6, 0, i) 2 = mCo M t g 34 i
      rw [e, I6, m 34 (by omega), z.2]
      rfl
    · exact old 34 i (show i < nG M by omega) (congrFun (m 34 (by omega)) i) (show ¬ pCo g (6, 0, i) from (by unfold pCo; simp only [Prod.mk.injEq]; omega))
  | 35, hd =>
    have hd : i / 3 < nG (mCo M t g) ∧ i % 3 < nD (mCo M t g) (i / 3) := hd
    rw [eG, eD] at hd
    by_cases e : i / 3 = g
    · rw [e, d0] at hd
      exact absurd hd.2 (Nat.not_lt_zero _)
    · exact old 35 i (show i / 3 < nG M ∧ i % 3 < nD M (i / 3) from ⟨by omega, hd.2⟩) (congrFun (m 35 (by omega)) i) (show ¬ pCo g (14, 0, i / 3) from (by unfold pCo; simp only [Prod.mk.injEq]; omega))
  | 36, hd =>
    have hd : i / 3 < nG (mCo M t g) ∧ i % 3 < nD (mCo M t g) (i / 3) := hd
    rw [eG, eD] at hd
    by_cases e : i / 3 = g
    · rw [e, d0] at hd
      exact absurd hd.2 (Nat.not_lt_zero _)
    · exact old 36 i (show i / 3 < nG M ∧ i % 3 < nD M (i / 3) from ⟨by omega, hd.2⟩) (congrFun (m 36 (by omega)) i) (show ¬ pCo g (15, 0, i / 3) from (by unfold pCo; simp only [Prod.mk.injEq]; omega))
  | 37, hd => exact hd.elim
  | 38, hd => exact hd.elim
  | 39, hd => exact hd.elim
  | 40, hd => exact hd.elim
  | 41, hd => exact hd.elim
  | 42, hd => exact hd.elim
  | 43, hd => exact hd.elim
  | 44, hd => exact hd.elim
  | 45, hd => exact hd.elim
  | 46, hd => exact hd.elim
  | 47, hd => exact hd.elim
  | 48, hd => exact hd.elim
  | 49, hd => exact old 49 i (show dom M 49 i from (show i < 2 from hd)) (congrFun (m 49 (by omega)) i) (show ¬ pCo g (9, i, 0) from (by unfold pCo; simp only [Prod.mk.injEq]; omega))
  | 50, hd => exact old 50 i (show dom M 50 i from (show i < 4 from hd)) (congrFun (m 50 (by omega)) i) (show ¬ pCo g (20, i / 2, 0) from (by unfold pCo; simp only [Prod.mk.injEq]; omega))
  | n + 51, hd => exact hd.elim
theorem co_nv (h : Tie S M) (ht : t < nT M) (hg : g = nG M) (h40 : g < 40) (F : fY S S2 (pCo g)) (l2 : zLs S2 1 (g + 1)) (Q13 : ∀ k n, zQ S2 (13, 1, g) k = some n → zQ S (13, 0, t) k = some n) : NV S2 (mCo M t g) := by
  have hT6 := nT6 h.1
  obtain ⟨eT, eB, eG, eS, eD, eL⟩ := co_n (M := M) (t := t) h40
  obtain ⟨n1, n2, n3, n4, n5, n6, n7, n8, n9, n10, n11⟩ := h.2.2.1
  have V2 : ∀ c : zId, ¬ pCo g c → zV S2 c = zV S c := fun c hc => (F c hc).2.2.1
  refine ⟨?_, ?_, ?_, ?_, fun u hu => ?_, fun u hu => ?_, fun u k hu hk => ?_, fun u hu => ?_, fun n hn => ?_, fun u j n hu hq => ?_, fun u j n hu hq => ?_⟩
  · rw [V2 (10, 0, 0) (by unfold pCo; simp only [Prod.mk.injEq]; omega)]; exact n1
  · rw [V2 (1, 0, 0) (by unfold pCo; simp only [Prod.mk.injEq]; omega)]; exact n2
  · rw [eT]; exact fY_ls F (by unfold pCo; simp only [Prod.mk.injEq]; omega) (fun g => (by unfold pCo; simp only [Prod.mk.injEq]; omega)) n3
  · rw [eG]; exact l2
  · rw [eT] at hu
    rw [eB]
    exact fY_ls F (by unfold pCo; simp only [Prod.mk.injEq]; omega) (fun g => (by unfold pCo; simp only [Prod.mk.injEq]; omega)) (n5 u hu)
  · rw [eT] at hu
    obtain ⟨q8, q0, q7, q12, q13, q23⟩ := n6 u hu
    refine ⟨?_, ?_, ?_, ?_, ?_, fun g => ?_⟩
    · rw [V2 (8, u, 0) (by unfold pCo; simp only [Prod.mk.injEq]; omega)]; exact q8
    · rw [V2 (0, u + 2, 0) (by unfold pCo; simp only [Prod.mk.injEq]; omega)]; exact q0
    · rw [V2 (7, 0, u) (by unfold pCo; simp only [Prod.mk.injEq]; omega)]; exact q7
    · rw [V2 (12, 0, u) (by unfold pCo; simp only [Prod.mk.injEq]; omega)]; exact q12
    · rw [V2 (13, 0, u) (by unfold pCo; simp only [Prod.mk.injEq]; omega)]; exact q13
    · rw [V2 (23, u + 2, g) (by unfold pCo; simp only [Prod.mk.injEq]; omega)]; exact q23 g
  · rw [eB] at hk
    rw [V2 (2, u, k) (by unfold pCo; simp only [Prod.mk.injEq]; omega)]
    exact n7 u k hu hk
  · rw [eG] at hu
    obtain ⟨q3, q7, q12, q13, q6, q14, q15, q16⟩ := n8 u (by omega)
    refine ⟨?_, ?_, ?_, ?_, ?_, ?_, ?_, ?_⟩
    · rw [V2 (3, u, 0) (by unfold pCo; simp only [Prod.mk.injEq]; omega)]; exact q3
    · rw [V2 (7, 1, u) (by unfold pCo; simp only [Prod.mk.injEq]; omega)]; exact q7
    · rw [V2 (12, 1, u) (by unfold pCo; simp only [Prod.mk.injEq]; omega)]; exact q12
    · rw [V2 (13, 1, u) (by unfold pCo; simp only [Prod.mk.injEq]; omega)]; exact q13
    · rw [V2 (6, 0, u) (by unfold pCo; simp only [Prod.mk.injEq]; omega)]; exact q6
    · rw [V2 (14, 0, u) (by unfold pCo; simp only [Prod.mk.injEq]; omega)]; exact q14
    · rw [V2 (15, 0, u) (by unfold pCo; simp only [Prod.mk.injEq]; omega)]; exact q15
    · rw [V2 (16, u, 0) (by unfold pCo; simp only [Prod.mk.injEq]; omega)]; exact q16
  · rw [(F (10, 0, 0) (by unfold pCo; simp only [Prod.mk.injEq]; omega)).2.1] at hn
    rw [V2 (4, n, 0) (by unfold pCo; simp only [Prod.mk.injEq]; omega)]
    exact n9 n hn
  · rw [eT] at hu
    rw [(F (10, 0, 0) (by unfold pCo; simp only [Prod.mk.injEq]; omega)).2.1]
    rw [(F (13, 0, u) (by unfold pCo; simp only [Prod.mk.injEq]; omega)).2.2.2.2 rfl] at hq
    exact n10 u j n hu hq
  · rw [eG] at hu
    rw [(F (10, 0, 0) (by unfold pCo; simp only [Prod.mk.injEq]; omega)).2.1]
    by_cases e : u = g
    · rw [e] at hq
      exact n10 t j n ht (Q13 j n hq)
    · rw [(F (13, 1, u) (by unfold pCo; simp only [Prod.mk.injEq]; omega)).2.2.2.2 rfl] at hq
      exact n11 u j n (by omega) hq
theorem co_tie (h : Tie S M) (ht : t < nT M) (hg : g = nG M) (h40 : g < 40) : ∃ S1 S2 S3, fX6_copied S 0 t g = some S1 ∧ fX2_init S1 g (nI t) = some S2 ∧ fJ_add S2 1 g = some S3 ∧ zLs S3 1 (g + 1) ∧ Tie S3 (mCo M t g) := by
  obtain ⟨n1, n2, n3, n4, n5, n6, n7, n8, n9, n10, n11⟩ := h.2.2.1
  obtain ⟨q3, q7, q12, q13, q6, q14, q15, q16⟩ := n8 g (by omega)
  obtain ⟨S1, e1, x1, i12, z13⟩ := copied_eq (S := S) (t := t) q13 q12 q7
  have V1 : ∀ c : zId, c ≠ (13, 1, g) → c ≠ (12, 1, g) → c ≠ (7, 1, g) → zV S1 c = zV S c := fun c a b d => (x1 c (fun q => q.elim a (fun q => q.elim b d))).2.2.2.2
  obtain ⟨S2, e2, x2, i6, i3, v3⟩ := game_init (S := S1) (g := g) (by rw [V1 _ (kne (show (15 : Nat) ≠ 13 by decide)) (kne (show (15 : Nat) ≠ 12 by decide)) (kne (show (15 : Nat) ≠ 7 by decide))]; exact q15) (by rw [V1 _ (kne (show (14 : Nat) ≠ 13 by decide)) (kne (show (14 : Nat) ≠ 12 by decide)) (kne (show (14 : Nat) ≠ 7 by decide))]; exact q14) (by rw [V1 _ (kne (show (6 : Nat) ≠ 13 by decide)) (kne (show (6 : Nat) ≠ 12 by decide)) (kne (show (6 : Nat) ≠ 7 by decide))]; exact q6) (by rw [V1 _ (kne (show (16 : Nat) ≠ 13 by decide)) (kne (show (16 : Nat) ≠ 12 by decide)) (kne (show (16 : Nat) ≠ 7 by decide))]; exact q16) (by rw [V1 _ (kne (show (3 : Nat) ≠ 13 by decide)) (kne (show (3 : Nat) ≠ 12 by decide)) (kne (show (3 : Nat) ≠ 7 by decide))]; exact q3) (nI t)
  have F12 := fY_t (fY_X x1) (fY_X x2)
  have l1 : zLs S2 1 g := by
    rw [hg]
    exact fY_ls F12 (by simp only [Prod.mk.injEq]; omega) (fun g => by simp only [Prod.mk.injEq]; omega) n4
  obtain ⟨S3, e3, l3, xB⟩ := add_eq (S := S2) (i := 1) (j := g) l1 (by omega) v3
  have F : fY S S3 (pCo g) := fY_m (fY_t F12 (fY_B xB)) (fun c q => by
    unfold pCo
    rcases q with (q | q) | q
    · exact Or.inl q
    · exact Or.inr (Or.inl q)
    · exact Or.inr (Or.inr q))
  have b1 := xB.1
  have I3 : zI S3 (3, g, 0) = (fun k => ([nI t, (0 : Int32), (0 : Int32), (0 : Int32), (0 : Int32), (0 : Int32)] : List Int32).getD k 0) := by rw [(b1 (3, g, 0) (show (3 : Nat) ≠ 0 by decide) (show (3 : Nat) ≠ 23 by decide)).1, i3]
  have I6 : zI S3 (6, 0, g) = (fun k => ([(0 : Int32), (0 : Int32), (0 : Int32), (0 : Int32)] : List Int32).getD k 0) := by rw [(b1 (6, 0, g) (show (6 : Nat) ≠ 0 by decide) (show (6 : Nat) ≠ 23 by decide)).1, i6]
  have I12 : ∀ k, k < 8 → zI S3 (12, 1, g) k = zI S (12, 0, t) k := fun k hk => by
    rw [(b1 (12, 1, g) (show (12 : Nat) ≠ 0 by decide) (show (12 : Nat) ≠ 23 by decide)).1, (x2 (12, 1, g) (by simp only [Prod.mk.injEq]; omega)).1]
    exact i12 k hk
  have Q13 : ∀ k, zQ S3 (13, 1, g) k = if k < 4 then zQ S (13, 0, t) k else none := fun k => by
    rw [(b1 (13, 1, g) (show (13 : Nat) ≠ 0 by decide) (show (13 : Nat) ≠ 23 by decide)).2.2.1, (x2 (13, 1, g) (by simp only [Prod.mk.injEq]; omega)).2.2.1]
    exact z13 k
  obtain ⟨eT, eB, eG, eS, eD, eL⟩ := co_n (M := M) (t := t) h40
  refine ⟨S1, S2, S3, e1, e2, e3, l3, co_wm h.1 ht hg h40, co_ag h ht hg h40 F l3 I3 I6 I12 (fun k hk => by rw [Q13, if_pos hk]), co_nv h ht hg h40 F l3 (fun k n hq => ?_), fun u hu => ?_⟩
  · rw [Q13] at hq
    by_cases e : k < 4
    · rw [if_pos e] at hq; exact hq
    · rw [if_neg e] at hq; cases hq
  · rw [eG] at hu
    by_cases e : u = g
    · have e0 : ents (mCo M t g) u = [] := by
        unfold ents
        rw [eL, if_pos e]
        rfl
      rw [e0, e, I3]
      exact ⟨nI_0.symm, fun k n hk => by cases hk⟩
    · exact lg_fY h.2.2.2 F (by omega) (by unfold pCo; simp only [Prod.mk.injEq]; omega) (by unfold pCo; simp only [Prod.mk.injEq]; omega) (ents_eq2 (by rw [eL, if_neg e]) (mCo_o _ _ _ 37 (by omega)) (mCo_o _ _ _ 38 (by omega)) (mCo_o _ _ _ 39 (by omega)))
theorem mCo_00 {v1 v2 v3 : Int32} {a b c : Nat} : pM (pM (pM (mCo (pM M 0 0 0) t g) 7 a v1) 4 b v2) 5 c v3 0 0 = 0 := by
  unfold mCo
  rw [pMn (by omega), pMn (by omega), pMn (by omega), pMn (by omega), cmQ_o _ _ _ (by omega), cmP_o _ _ _ (by omega), pMn (by omega), pMn (by omega), pM_s]
theorem tw_game (h : Tie S M) (ht : t < nT M) (hg : g < nG M) (h25 : M 25 g = nI t) (hL : 0 < nL M g) : Tie (pI S (8, t, 0) 4 (nI g)) (pM M 7 t (nI g)) := by
  refine ⟨?_, ag_w h.2.1 7 t (nI g) (fun k i hd => hd) (fun k i => vS_tab 7 (by omega) (nI g) k i), nv_pI _ _ _ (show (8 : Nat) ≠ 0 by decide) h.2.2.1, lg_pI _ _ _ (Or.inl (show (8 : Nat) ≠ 3 by decide)) h.2.2.2⟩
  obtain ⟨w1, w2, w3, w4, w5, w6⟩ := h.1
  refine ⟨w1, w2, w3, w4, fun u hu => ⟨(w5 u hu).1, ?_⟩, w6⟩
  rw [pM_at]
  by_cases e : (7 : Nat) = 7 ∧ u = t
  · rw [if_pos e, e.2]; exact Or.inr ⟨g, hg, rfl, h25, hL⟩
  · rw [if_neg e]; exact (w5 u hu).2
def coX (i_1 : Int32) (M15 : zMs) : Option (Int32 × zMs) := st (M15 24 0) fun x17 =>
gd (¬ (x17 < 0 ∨ 40 ≤ x17.toNatClampNeg)) (
st (pM M15 25 x17.toNatClampNeg i_1) fun M18 =>
gd (¬ (x17 < 0 ∨ 40 ≤ x17.toNatClampNeg)) (
st (pM M18 26 x17.toNatClampNeg (3 : Int32)) fun M19 =>
st (0 : Int32) fun x20 => lp (bCoP i_1 x17) 40000 (x20, M19)))
def coT (M : zMs) (i_1 : Int32) (y4 : Int32) : Option (Int32 × zMs) := st y4 fun x7 =>
cl (fX10_isTable M i_1) fun r8 =>
st (fun (y11 : Int32) => (cl2 (fX10_refused M y11) fun r13 M15 => if r13 = 0 then coX i_1 M15 else some (((0 : Int32), M15)) : Option (Int32 × zMs))) fun j12 =>
if r8 = 0 then j12 (1 : Int32) else if x7 = 0 then j12 (2 : Int32) else j12 (0 : Int32)
theorem coin10 (M : zMs) (i_1 : Int32) : fX10_coin M i_1 = (cl (fX10_isTable M i_1) fun r1 => st (fun (y4 : Int32) => coT M i_1 y4) fun j6 => st (fun (u_ : Unit) => (j6 (0 : Int32) : Option (Int32 × zMs))) fun j46 => if r1 = 0 then j46 () else cl (fX10_isFree M i_1) fun r47 => if r47 = 0 then j46 () else if (40 : Int32) ≤ (M 24 0) then j46 () else j6 (1 : Int32)) := rfl
theorem coX_eq (h : WM M) (ht : t < nT M) (hg : g = nG M) (h40 : g < 40) (h00 : M 0 0 = 0) : ∃ M1, coX (nI t) M = some (nI g, M1) ∧ M1 = pM (pM (pM (mCo M t g) 7 t (nI g)) 4 t (M 4 t + M 3 t)) 5 t (M 5 t + M 3 t) := by
  have hT6 := nT6 h
  have e24 : M 24 0 = nI g := by rw [hg]; exact nG_e h
  have ct : (nI t).toNatClampNeg = t := nI_clamp (by omega)
  have cg : (nI g).toNatClampNeg = g := nI_clamp (by omega)
  have e00 : pM M 0 0 0 = M := by
    funext a b
    rw [pM_at]
    by_cases e : a = 0 ∧ b = 0
    · rw [if_pos e, e.1, e.2, h00]
    · rw [if_neg e]
  refine ⟨_, ?_, rfl⟩
  unfold coX
  rw [e24, st_s, gd_t (by rw [cg]; exact fun q => q.elim (nI_pos (by omega)) (by omega)), st_s, gd_t (by rw [cg]; exact fun q => q.elim (nI_pos (by omega)) (by omega)), st_s, st_s, cg]
  have hAo : ∀ d, d ≠ 25 ∧ d ≠ 26 → pM (pM M 25 g (nI t)) 26 g 3 d = M d := fun d hd => by rw [pMn hd.2, pMn hd.1]
  generalize hA : pM (pM M 25 g (nI t)) 26 g 3 = A at *
  refine lp_up (body := bCoP (nI t) (nI g)) (fun k => (nI k, cmP A t g k)) 8 (by omega) ?_ (fun k hk => ?_) ?_
  · show _ = (nI 0, _)
    rw [nI_0]
    rfl
  · have a14 : cmP A t g k 14 (8 * t + k) = A 14 (8 * t + k) := by rw [cmP_o _ _ _ (by omega)]
    unfold bCoP
    dsimp only
    rw [if_neg (by rw [c8I]; exact nI_ge hk (by omega))]
    simp (disch := omega) only [Nat.add_sub_cancel, nI_0, c2I, c3I, c4I, c6I, c8I, c9I, c10I, c15I, c16I, c20I, c30I, c40I, c48I, c60I, c100I, c120I, c159I, c160I, c239I, c240I, c256I, c300I, c318I, c320I, c720I, c840I, c960I, c2520I, c36000I, c1048576I, nI_1, nI_add, pk_mul, nI_pred1, nI_pm1, pk_sub, pk_div, nI_clamp, nI_lz, nI_leI, nI_ltI, nI_eq, nI_z, nI_lez, nI_gez, nI_gtz, nI_m, nI_m2, nI_lem, nI_ltm, nleF, leT, ltT, ltF, eqT, eqF, false_or, or_false, not_false_eq_true, not_true_eq_false, gd_T, st_q, cl_q, cl2_q, cxr_q, cxl_q, i10, if_true, if_false, Bool.false_eq_true, a14]
    rfl
  · unfold bCoP
    dsimp only
    rw [if_pos (by decide), st_s]
    refine lp_up (body := bCoQ (nI t) (nI g)) (fun k => (nI k, cmQ (cmP A t g 8) t g k)) 4 (by omega) ?_ (fun k hk => ?_) ?_
    · show _ = (nI 0, _)
      rw [nI_0]
      rfl
    · have a (d : Nat) (hd : d < 29 ∨ 33 < d) (u : Nat) : cmQ (cmP A t g 8) t g k d u = cmP A t g 8 d u := by rw [cmQ_o _ _ _ hd]
      unfold bCoQ
      dsimp only
      rw [if_neg (by rw [c4I]; exact nI_ge hk (by omega))]
      simp (disch := omega) only [Nat.add_sub_cancel, nI_0, c2I, c3I, c4I, c6I, c8I, c9I, c10I, c15I, c16I, c20I, c30I, c40I, c48I, c60I, c100I, c120I, c159I, c160I, c239I, c240I, c256I, c300I, c318I, c320I, c720I, c840I, c960I, c2520I, c36000I, c1048576I, nI_1, nI_add, pk_mul, nI_pred1, nI_pm1, pk_sub, pk_div, nI_clamp, nI_lz, nI_leI, nI_ltI, nI_eq, nI_z, nI_lez, nI_gez, nI_gtz, nI_m, nI_m2, nI_lem, nI_ltm, nleF, leT, ltT, ltF, eqT, eqF, false_or, or_false, not_false_eq_true, not_true_eq_false, gd_T, st_q, cl_q, cl2_q, cxr_q, cxl_q, i10, if_true, if_false, Bool.false_eq_true, pMn, a 17 (by omega), a 18 (by omega), a 19 (by omega), a 20 (by omega), a 21 (by omega)]
      rfl
    · have b (d : Nat) (hd : d ≠ 25 ∧ d ≠ 26 ∧ (d < 28 ∨ 33 < d)) (u : Nat) : cmQ (cmP A t g 8) t g 4 d u = M d u := by
        rw [cmQ_o _ _ _ (by omega), cmP_o _ _ _ (by omega), hAo d (by omega)]
      have g6 : ¬ 6 ≤ t := by omega
      unfold bCoQ
      dsimp only
      rw [if_pos (by decide)]
      simp (disch := omega) only [ct, nI_pos (show t < 2 ^ 31 by omega), false_or, g6, not_false_eq_true, gd_T, st_q, cl_q, cl2_q, cxr_q, cxl_q, i10, if_true, if_false, Bool.false_eq_true, pM_s, pMn, b 4 (by omega), b 3 (by omega), b 5 (by omega), b 24 (by omega), e24, nI_1]
      unfold mCo
      rw [e00, hA]
      refine congrArg (fun q => some (Sum.inr (Sum.inr (nI g, q)))) ?_
      rw [pM_comm (show 24 ≠ 7 by decide), pM_comm (show 24 ≠ 4 by decide), pM_comm (show 24 ≠ 5 by decide), pM_comm (show 7 ≠ 4 by decide), pM_comm (show 7 ≠ 5 by decide)]
theorem ok_coin (S : zSt) (M : zMs) (i : Int32) (h : Tie S M) : zOk Tie [1, 3] (fun y : (Int32 × zSt) => (y.1).toInt64) (fun y : (Int32 × zSt) => y.2) (fX9_coin S i) (fun b : Int32 => b.toInt64) (fX10_coin M i) := by
  have h6 := nT6 h.1
  have hG := nG40 h.1
  rw [coin10]
  rcases ixc i (nT M) (by omega) with hi | ⟨t, ht, rfl⟩
  · refine thr h (n := 1) (w := 1) (b := 0) (by simp) (by decide) ?_ ?_
    · unfold fX9_coin; rw [dT_out h hi, cx_l]
    · unfold coT
      simp only [isTable_out h.1 hi, cl_q, st_q, if_true, refused_n M i10, cl2_q, i10, if_false]
  · have z7 : zI S (8, t, 0) 4 = M 7 t := ag h 7 t ht
    by_cases hf : M 7 t = -1
    · by_cases h40 : nG M < 40
      · have h0 := tie_ref h 0
        obtain ⟨S1, S2, S3, e1, e2, e3, l3, t3⟩ := co_tie (g := nG M) h0 ht rfl h40
        obtain ⟨M1, m1, m2⟩ := coX_eq (g := nG M) h0.1 ht rfl h40 rfl
        obtain ⟨eT, eB, eG, eS, eD, eL⟩ := co_n (M := pM M 0 0 0) (t := t) h40
        have qT : t < nT (mCo (pM M 0 0 0) t (nG M)) := by rw [eT]; exact ht
        have qG : nG M < nG (mCo (pM M 0 0 0) t (nG M)) := by rw [eG]; exact Nat.lt_succ_self _
        have q25 : mCo (pM M 0 0 0) t (nG M) 25 (nG M) = nI t := by rw [mCo_25, if_pos rfl]
        have qL : 0 < nL (mCo (pM M 0 0 0) t (nG M)) (nG M) := by rw [eL, if_pos rfl]; decide
        have r3 : mCo (pM M 0 0 0) t (nG M) 3 t = M 3 t := by rw [mCo_o _ _ _ 3 (by omega), pMn (by decide)]
        have r4 : mCo (pM M 0 0 0) t (nG M) 4 t = M 4 t := by rw [mCo_o _ _ _ 4 (by omega), pMn (by decide)]
        have r5 : mCo (pM M 0 0 0) t (nG M) 5 t = M 5 t := by rw [mCo_o _ _ _ 5 (by omega), pMn (by decide)]
        have q00 : ∀ v1 v2 v3 : Int32, pM (pM (pM (mCo (pM M 0 0 0) t (nG M)) 7 t v1) 4 t v2) 5 t v3 0 0 = 0 := fun _ _ _ => mCo_00
        have p4 : pM M 0 0 0 4 t + pM M 0 0 0 3 t = M 4 t + M 3 t := by rw [pMn (by decide), pMn (by decide)]
        have p5 : pM M 0 0 0 5 t + pM M 0 0 0 3 t = M 5 t + M 3 t := by rw [pMn (by decide), pMn (by decide)]
        rw [p4, p5] at m2
        clear eT eB eG eS eD eL
        generalize mCo (pM M 0 0 0) t (nG M) = Mc at *
        have nT_p : ∀ (X : zMs) (k i : Nat) (v : Int32), k ≠ 1 → nT (pM X k i v) = nT X := fun X k i v hk => by unfold nT; rw [pMn (fun e => hk e.symm)]
        have t4 := tw_game (g := nG M) t3 qT qG q25 qL
        have t5 := tw_box (t := t) t4 (by rw [nT_p _ _ _ _ (by decide)]; exact qT) (M 4 t + M 3 t)
        have t6 := tw_bro (t := t) t5 (by rw [nT_p _ _ _ _ (by decide), nT_p _ _ _ _ (by decide)]; exact qT) (M 5 t + M 3 t)
        have z5 : zI S3 (8, t, 0) 5 = M 4 t := (ag t3 4 t qT).trans r4
        have z6 : zI S3 (8, t, 0) 6 = M 5 t := (ag t3 5 t qT).trans r5
        have z1 : zI S3 (8, t, 0) 1 = M 3 t := (ag t3 3 t qT).trans r3
        refine Or.inl ⟨(nI (nG M), pI (pI (pI S3 (8, t, 0) 4 (nI (nG M))) (8, t, 0) 5 (M 4 t + M 3 t)) (8, t, 0) 6 (M 5 t + M 3 t)), nI (nG M), M1, ?_, ?_, ?_, rfl, ?_⟩
        · have hs : zI S (0, 1, 0) 2 = nI (nG M) := (ls1 h).1
          unfold fX9_coin fX9_demandNoGame
          rw [dT_in h ht, cx_r, z7, if_pos hf, cx_r, zLs_size (ls1 h), cl_s, if_pos (by rw [c40I]; exact nI_lt h40 (by omega)), hs, nI_clamp (by omega), st_s, e1, cl_s, e2, cl_s, e3, cl_s, zLs_size l3, cl_s, nI_pred, st_s, st_s, st_s]
          simp (disch := omega) only [zI_at, Prod.mk.injEq, eqT, eqF, true_and, and_true, false_and, and_false, if_true, if_false, z5, z6, z1]
          rfl
        · have n40 : ¬ (40 : Int32) ≤ nI (nG M) := by rw [c40I]; exact nI_ge h40 (by omega)
          unfold coT
          simp only [isTable_in h.1 ht, cl_q, st_q, i10, if_false, isFree_eq M (show t < 6 by omega), hf, if_true, nG_e h.1, n40, refused_0, cl2_q, m1]
        · rw [m2]
          exact q00 _ _ _
        · rw [m2]
          exact t6
      · have n40 : (40 : Int32) ≤ nI (nG M) := by rw [c40I]; exact nI_le (by omega) (by omega)
        refine thr h (n := 3) (w := 2) (b := 0) (by simp) (by decide) ?_ ?_
        · unfold fX9_coin fX9_demandNoGame
          rw [dT_in h ht, cx_r, z7, if_pos hf, cx_r, zLs_size (ls1 h), cl_s, if_neg (nlt_of n40)]
        · unfold coT
          simp only [isTable_in h.1 ht, cl_q, st_q, i10, if_false, isFree_eq M (show t < 6 by omega), hf, if_true, nG_e h.1, n40, refused_n M i20, cl2_q]
    · refine thr h (n := 3) (w := 2) (b := 0) (by simp) (by decide) ?_ ?_
      · unfold fX9_coin fX9_demandNoGame
        rw [dT_in h ht, cx_r, z7, if_neg hf, cx_l]
      · unfold coT
        simp only [isTable_in h.1 ht, cl_q, st_q, i10, if_false, isFree_eq M (show t < 6 by omega), hf, if_true, refused_n M i20, cl2_q]
end PCO
