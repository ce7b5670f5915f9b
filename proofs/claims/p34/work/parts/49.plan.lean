/-! the plan of a van -/
def bG9 (_u : Unit) : (Int32 × zSt) → Option ((Int32 × zSt) ⊕ zSt) := fun (q3 : (Int32 × zSt)) =>
cl (fJ_size q3.2 0) fun r9 =>
if r9 ≤ q3.1 then
some (.inr (q3.2))
else
if (6 : Int32) ≤ q3.1 then
some (.inr (q3.2))
else
if (6 : Int32) ≤ (zI q3.2 (5, 0, 0) 3) then
some (.inr (q3.2))
else
cl (fJ_get q3.2 0 q3.1) fun r13 =>
gd (¬ (q3.1 < 0 ∨ 6 ≤ q3.1.toNatClampNeg)) (
st (pI q3.2 (17, 0, 0) q3.1.toNatClampNeg (zI q3.2 (8, r13, 0) 0)) fun S17 =>
cl (fX7_needsService S17 r13) fun r18 =>
st (fun (S21 : zSt) => (st (q3.1 + (1 : Int32)) fun x23 =>
some (.inl (x23, S21)) : Option ((Int32 × zSt) ⊕ zSt))) fun j22 =>
if r18 = 0 then
j22 S17
else
gd (¬ ((zI S17 (5, 0, 0) 3) < 0 ∨ 6 ≤ (zI S17 (5, 0, 0) 3).toNatClampNeg)) (
st (pI S17 (18, 0, 0) (zI S17 (5, 0, 0) 3).toNatClampNeg q3.1) fun S25 =>
st (pI S25 (5, 0, 0) 3 ((zI S25 (5, 0, 0) 3) + (1 : Int32))) fun S26 =>
j22 S26))
def bS9 (i_2 : Int32) : (Int32 × zSt) → Option ((Int32 × zSt) ⊕ zSt) := fun (q11 : (Int32 × zSt)) =>
if (720 : Int32) ≤ q11.1 then
some (.inr (q11.2))
else
cl2 (fX4_nextOrder q11.2) fun r17 S19 =>
if r17 = 0 then
some (.inr (S19))
else
cl (fX4_measureOrder S19 i_2) fun r21 =>
st r21 fun x23 =>
st (fun (S24 : zSt) => (st (q11.1 + (1 : Int32)) fun x26 =>
some (.inl (x26, S24)) : Option ((Int32 × zSt) ⊕ zSt))) fun j25 =>
if (zI S19 (5, 0, 0) 4) ≤ x23 then
j25 S19
else
st (pI S19 (5, 0, 0) 4 x23) fun S27 =>
cl (fX4_keepOrder S27) fun S30 =>
j25 S30
def bM9 (S : zSt) : (Int32 × Int32 × Int32) → Option ((Int32 × Int32 × Int32) ⊕ Int32) := fun (q4 : (Int32 × Int32 × Int32)) =>
if (zI S (5, 0, 0) 3) ≤ q4.2.2 then
some (.inr (q4.1))
else
if (6 : Int32) ≤ q4.2.2 then
some (.inr (q4.1))
else
gd (¬ (q4.2.2 < 0 ∨ 6 ≤ q4.2.2.toNatClampNeg)) (
st (zI S (18, 0, 0) q4.2.2.toNatClampNeg) fun x12 =>
st (fun (y13 : Int32) => (st y13 fun x15 =>
st (q4.1 + (if 0 ≤ (x15 - q4.2.1) then (x15 - q4.2.1) else 0 - (x15 - q4.2.1))) fun x16 =>
st x15 fun x17 =>
st (q4.2.2 + (1 : Int32)) fun x18 =>
some (.inl (x16, x17, x18)) : Option ((Int32 × Int32 × Int32) ⊕ Int32))) fun j14 =>
st (fun (u_ : Unit) => (j14 q4.2.1 : Option ((Int32 × Int32 × Int32) ⊕ Int32))) fun j19 =>
if x12 < 0 then
j19 ()
else
if (6 : Int32) ≤ x12 then
j19 ()
else
gd (¬ (x12 < 0 ∨ 6 ≤ x12.toNatClampNeg)) (
j14 (zI S (17, 0, 0) x12.toNatClampNeg)))
def bK9 (_u : Unit) : (Int32 × zSt) → Option ((Int32 × zSt) ⊕ zSt) := fun (q2 : (Int32 × zSt)) =>
if (zI q2.2 (5, 0, 0) 3) ≤ q2.1 then
some (.inr (q2.2))
else
if (6 : Int32) ≤ q2.1 then
some (.inr (q2.2))
else
if (6 : Int32) ≤ q2.1 then
some (.inr (q2.2))
else
gd (¬ (q2.1 < 0 ∨ 6 ≤ q2.1.toNatClampNeg)) (
gd (¬ (q2.1 < 0 ∨ 6 ≤ q2.1.toNatClampNeg)) (
st (pI q2.2 (19, 0, 0) q2.1.toNatClampNeg (zI q2.2 (18, 0, 0) q2.1.toNatClampNeg)) fun S12 =>
st (q2.1 + (1 : Int32)) fun x13 =>
some (.inl (x13, S12))))
def bM10 (M : zMs) : (Int32 × Int32 × Int32) → Option ((Int32 × Int32 × Int32) ⊕ Int32) := fun (q4 : (Int32 × Int32 × Int32)) =>
if (M 51 0) ≤ q4.2.2 then
some (.inr (q4.1))
else
gd (¬ (q4.2.2 < 0 ∨ 6 ≤ q4.2.2.toNatClampNeg)) (
gd (¬ ((M 52 q4.2.2.toNatClampNeg) < 0 ∨ 6 ≤ (M 52 q4.2.2.toNatClampNeg).toNatClampNeg)) (
cl (fX10_far M q4.2.1 (M 2 (M 52 q4.2.2.toNatClampNeg).toNatClampNeg)) fun r10 =>
st (q4.1 + r10) fun x12 =>
gd (¬ (q4.2.2 < 0 ∨ 6 ≤ q4.2.2.toNatClampNeg)) (
gd (¬ ((M 52 q4.2.2.toNatClampNeg) < 0 ∨ 6 ≤ (M 52 q4.2.2.toNatClampNeg).toNatClampNeg)) (
st (M 2 (M 52 q4.2.2.toNatClampNeg).toNatClampNeg) fun x13 =>
st (q4.2.2 + (1 : Int32)) fun x14 =>
some (.inl (x12, x13, x14))))))
def bX10_plan (i_1 : Int32) : (Int32 × zMs) → Option ((Int32 × zMs) ⊕ ((Int32 × zMs) ⊕ zMs)) := fun (q11 : (Int32 × zMs)) =>
if q11.1 = 0 then
some (.inr (.inr (q11.2)))
else
cl (fX10_lengthOf q11.2 i_1) fun r17 =>
st r17 fun x19 =>
st (fun (S20 : zMs) => (cl2 (fX10_reorder S20) fun r22 M24 =>
st r22 fun x26 =>
some (.inl (x26, M24)) : Option ((Int32 × zMs) ⊕ ((Int32 × zMs) ⊕ zMs)))) fun j21 =>
st (fun (u_ : Unit) => (st (pM q11.2 54 0 x19) fun M28 =>
st (0 : Int32) fun x29 =>
lp (fun (q30 : (Int32 × zMs)) => (if (q30.2 51 0) ≤ q30.1 then
cl (j21 q30.2) fun v_ => some (.inr v_)
else
gd (¬ (q30.1 < 0 ∨ 6 ≤ q30.1.toNatClampNeg)) (
gd (¬ (q30.1 < 0 ∨ 6 ≤ q30.1.toNatClampNeg)) (
st (pM q30.2 53 q30.1.toNatClampNeg (q30.2 52 q30.1.toNatClampNeg)) fun M37 =>
st (q30.1 + (1 : Int32)) fun x38 =>
some (.inl (x38, M37)))) : Option ((Int32 × zMs) ⊕ ((Int32 × zMs) ⊕ ((Int32 × zMs) ⊕ zMs))))) 40000 (x29, M28) : Option ((Int32 × zMs) ⊕ ((Int32 × zMs) ⊕ zMs)))) fun j27 =>
if (q11.2 54 0) = (-1 : Int32) then
j27 ()
else
if (q11.2 54 0) ≤ x19 then
j21 q11.2
else
j27 ()
def bG10 (i_1 : Int32) : (Int32 × zMs) → Option ((Int32 × zMs) ⊕ zMs) := fun (q3 : (Int32 × zMs)) =>
if (q3.2 1 0) ≤ q3.1 then
st (pM q3.2 54 0 (-1 : Int32)) fun M9 =>
st (1 : Int32) fun x10 =>
lp (fun (q11 : (Int32 × zMs)) => (if q11.1 = 0 then
some (.inr (.inr (q11.2)))
else
cl (fX10_lengthOf q11.2 i_1) fun r17 =>
st r17 fun x19 =>
st (fun (S20 : zMs) => (cl2 (fX10_reorder S20) fun r22 M24 =>
st r22 fun x26 =>
some (.inl (x26, M24)) : Option ((Int32 × zMs) ⊕ ((Int32 × zMs) ⊕ zMs)))) fun j21 =>
st (fun (u_ : Unit) => (st (pM q11.2 54 0 x19) fun M28 =>
st (0 : Int32) fun x29 =>
lp (fun (q30 : (Int32 × zMs)) => (if (q30.2 51 0) ≤ q30.1 then
cl (j21 q30.2) fun v_ => some (.inr v_)
else
gd (¬ (q30.1 < 0 ∨ 6 ≤ q30.1.toNatClampNeg)) (
gd (¬ (q30.1 < 0 ∨ 6 ≤ q30.1.toNatClampNeg)) (
st (pM q30.2 53 q30.1.toNatClampNeg (q30.2 52 q30.1.toNatClampNeg)) fun M37 =>
st (q30.1 + (1 : Int32)) fun x38 =>
some (.inl (x38, M37)))) : Option ((Int32 × zMs) ⊕ ((Int32 × zMs) ⊕ ((Int32 × zMs) ⊕ zMs))))) 40000 (x29, M28) : Option ((Int32 × zMs) ⊕ ((Int32 × zMs) ⊕ zMs)))) fun j27 =>
if (q11.2 54 0) = (-1 : Int32) then
j27 ()
else
if (q11.2 54 0) ≤ x19 then
j21 q11.2
else
j27 () : Option ((Int32 × zMs) ⊕ ((Int32 × zMs) ⊕ zMs)))) 40000 (x10, M9)
else
cl (fX10_needsService q3.2 q3.1) fun r39 =>
st (fun (S42 : zMs) => (st (q3.1 + (1 : Int32)) fun x44 =>
some (.inl (x44, S42)) : Option ((Int32 × zMs) ⊕ zMs))) fun j43 =>
if r39 = 0 then
j43 q3.2
else
gd (¬ ((q3.2 51 0) < 0 ∨ 6 ≤ (q3.2 51 0).toNatClampNeg)) (
st (pM q3.2 52 (q3.2 51 0).toNatClampNeg q3.1) fun M45 =>
st (pM M45 51 0 ((M45 51 0) + (1 : Int32))) fun M46 =>
j43 M46)
def bK10 (j21 : zMs → Option ((Int32 × zMs) ⊕ ((Int32 × zMs) ⊕ zMs))) : (Int32 × zMs) → Option ((Int32 × zMs) ⊕ ((Int32 × zMs) ⊕ ((Int32 × zMs) ⊕ zMs))) := fun (q30 : (Int32 × zMs)) =>
if (q30.2 51 0) ≤ q30.1 then
cl (j21 q30.2) fun v_ => some (.inr v_)
else
gd (¬ (q30.1 < 0 ∨ 6 ≤ q30.1.toNatClampNeg)) (
gd (¬ (q30.1 < 0 ∨ 6 ≤ q30.1.toNatClampNeg)) (
st (pM q30.2 53 q30.1.toNatClampNeg (q30.2 52 q30.1.toNatClampNeg)) fun M37 =>
st (q30.1 + (1 : Int32)) fun x38 =>
some (.inl (x38, M37))))
def planR (i_1 : Int32) (M : zMs) : Option ((Int32 × zMs) ⊕ zMs) := st (pM M 54 0 (-1 : Int32)) fun M9 => st (1 : Int32) fun x10 => lp (bX10_plan i_1) 40000 (x10, M9)
section PP
variable {S S1 S0 : zSt} {M M1 M0 : zMs} {c n a : Nat} {ord : Nat → Nat} {site : Nat → Nat}
theorem bdS_c (q15 : M1 15 = M 15) (q16 : M1 16 = M 16) (j : Int32) (t n : Nat) : bdS M1 j t n = bdS M j t n := by
  induction n with
  | zero => rfl
  | succ n ih =>
    show (if bB M1 j (8 * t + n) = true then bdS M1 j t n + 1 else bdS M1 j t n) = (if bB M j (8 * t + n) = true then bdS M j t n + 1 else bdS M j t n)
    rw [ih]
    unfold bB
    rw [q15, q16]
def needB (M : zMs) (t : Nat) : Bool := decide (t < nT M ∧ M 7 t = -1 ∧ (20 ≤ M 4 t ∨ 0 < bdS M 0 t (nB M t) ∨ 0 < bdS M 1 t (nB M t)))
theorem needB_e (he : eqM M M1) (t : Nat) : needB M1 t = needB M t := by
  unfold needB nT nB
  rw [he 1 (by unfold visR; omega), he 7 (by unfold visR; omega), he 4 (by unfold visR; omega), he 8 (by unfold visR; omega), bdS_c (he 15 (by unfold visR; omega)) (he 16 (by unfold visR; omega)), bdS_c (he 15 (by unfold visR; omega)) (he 16 (by unfold visR; omega))]
theorem needs9 (h : Tie S M) {t : Nat} (ht : t < nT M) : fX7_needsService S t = some (if needB M t = true then 1 else 0) := by
  have e4 : zI S (8, t, 0) 4 = M 7 t := ag h 7 t ht
  have e5 : zI S (8, t, 0) 5 = M 4 t := ag h 4 t ht
  unfold fX7_needsService needB
  by_cases h1 : M 7 t = -1
  · by_cases h2 : (20 : Int32) ≤ M 4 t
    · simp only [st_q, e4, e5, h1, if_true, h2, ht, true_and, true_or, decide_true]
    · by_cases h3 : 0 < bdS M 0 t (nB M t)
      · simp only [st_q, e4, e5, h1, if_true, h2, if_false, ht, true_and, true_or, or_true, decide_true, countF_eq h 0 ht, cl_q, h3]
      · by_cases h4 : 0 < bdS M 1 t (nB M t)
        · simp only [st_q, e4, e5, h1, if_true, h2, if_false, ht, true_and, or_true, decide_true, countF_eq h 0 ht, countF_eq h 1 ht, cl_q, h3, h4, Int32.not_le.mpr h4]
        · simp only [st_q, e4, e5, h1, if_true, h2, if_false, ht, true_and, false_or, decide_false, countF_eq h 0 ht, countF_eq h 1 ht, cl_q, h3, h4, Int32.not_lt.mp h4, Bool.false_eq_true]
  · simp only [st_q, e4, h1, if_false, false_and, and_false, decide_false, Bool.false_eq_true]
theorem needs10 (h : WM M) {t : Nat} (ht : t < nT M) : fX10_needsService M (nI t) = some (if needB M t = true then 1 else 0) := by
  have h6 := nT6 h
  have ct : (nI t).toNatClampNeg = t := nI_clamp (by omega)
  have g6 : ¬ 6 ≤ t := by omega
  have hf : fX10_isFree M (nI t) = some (if M 7 t = -1 then 1 else 0) := by
    unfold fX10_isFree
    by_cases h1 : M 7 t = -1
    · simp only [ct, nI_pos (show t < 2 ^ 31 by omega), false_or, g6, not_false_eq_true, gd_T, h1, if_true]
    · simp only [ct, nI_pos (show t < 2 ^ 31 by omega), false_or, g6, not_false_eq_true, gd_T, h1, if_false]
  unfold fX10_needsService needB
  by_cases h1 : M 7 t = -1
  · by_cases h2 : (20 : Int32) ≤ M 4 t
    · simp only [hf, cl_q, i10, ct, nI_pos (show t < 2 ^ 31 by omega), false_or, g6, not_false_eq_true, gd_T, st_q, h1, if_true, if_false, h2, ht, true_and, true_or, decide_true]
    · by_cases h3 : 0 < bdS M 0 t (nB M t)
      · simp only [hf, i10, ct, nI_pos (show t < 2 ^ 31 by omega), false_or, g6, not_false_eq_true, gd_T, st_q, h1, if_true, h2, if_false, ht, true_and, true_or, or_true, decide_true, bad_eq h 0 ht, cl_q, h3]
      · by_cases h4 : 0 < bdS M 1 t (nB M t)
        · simp only [hf, i10, ct, nI_pos (show t < 2 ^ 31 by omega), false_or, g6, not_false_eq_true, gd_T, st_q, h1, if_true, h2, if_false, ht, true_and, or_true, decide_true, bad_eq h 0 ht, bad_eq h 1 ht, cl_q, h3, h4, Int32.not_le.mpr h4]
        · simp only [hf, i10, ct, nI_pos (show t < 2 ^ 31 by omega), false_or, g6, not_false_eq_true, gd_T, st_q, h1, if_true, h2, if_false, ht, true_and, decide_false, bad_eq h 0 ht, bad_eq h 1 ht, cl_q, h3, h4, Int32.not_lt.mp h4, Bool.false_eq_true]
  · simp only [hf, st_q, cl_q, h1, if_false, if_true, false_and, and_false, decide_false, Bool.false_eq_true]
def pF (S S1 : zSt) : Prop := (∀ d : zId, d.1 ≠ 5 → d.1 ≠ 17 → d.1 ≠ 18 → d.1 ≠ 19 → zI S1 d = zI S d) ∧ (∀ c, zL S1 c = zL S c) ∧ (∀ c, zQ S1 c = zQ S c) ∧ (∀ c, zN S1 c = zN S c) ∧ (∀ c, zV S1 c = zV S c)
theorem pF_r (S : zSt) : pF S S := ⟨fun _ _ _ _ _ => rfl, fun _ => rfl, fun _ => rfl, fun _ => rfl, fun _ => rfl⟩
theorem pF_t {S2 : zSt} (h : pF S S1) (h1 : pF S1 S2) : pF S S2 := ⟨fun c x y z w => (h1.1 c x y z w).trans (h.1 c x y z w), fun c => (h1.2.1 c).trans (h.2.1 c), fun c => (h1.2.2.1 c).trans (h.2.2.1 c), fun c => (h1.2.2.2.1 c).trans (h.2.2.2.1 c), fun c => (h1.2.2.2.2 c).trans (h.2.2.2.2 c)⟩
theorem pF_p {d : zId} (hd : d.1 = 5 ∨ d.1 = 17 ∨ d.1 = 18 ∨ d.1 = 19) (k : Nat) (v : Int32) : pF S (pI S d k v) := ⟨fun b x y z w => zI_pIn S (fun e => by rw [e] at x y z w; omega) k v, fun _ => rfl, fun _ => rfl, fun _ => rfl, fun _ => rfl⟩
theorem pF_o (h : oF S S1) : pF S S1 := ⟨fun d _ _ z _ => h.1 d (fun e => z (by rw [e])), h.2⟩
theorem pF_h (h : pF S S1) : eqH S S1 := ⟨fun c hc => h.1 c (fun e => hc (by unfold hidC; omega)) (fun e => hc (by unfold hidC; omega)) (fun e => hc (by unfold hidC; omega)) (fun e => hc (by unfold hidC; omega)), h.2⟩
def qF (M M1 : zMs) : Prop := ∀ k, k ≠ 51 → k ≠ 52 → k ≠ 53 → k ≠ 54 → M1 k = M k
theorem qF_t {M2 : zMs} (h : qF M M1) (h1 : qF M1 M2) : qF M M2 := fun k x y z w => (h1 k x y z w).trans (h k x y z w)
theorem qF_p {k : Nat} (hk : k = 51 ∨ k = 52 ∨ k = 53 ∨ k = 54) (i : Nat) (v : Int32) : qF M (pM M k i v) := fun k1 x y z w => pMn (by omega) i v
theorem qF_m (h : mF M M1) : qF M M1 := fun k _ y _ _ => h k y
theorem qF_e (h : qF M M1) : eqM M M1 := fun k hk => h k (by unfold visR at hk; omega) (by unfold visR at hk; omega) (by unfold visR at hk; omega) (by unfold visR at hk; omega)
theorem OS_a (h : OS S c ord) (v : Int32) (hv : v = nI n) : OS (pI (pI S (18, 0, 0) c v) (5, 0, 0) 3 (nI (c + 1))) (c + 1) (fun k => if k = c then n else ord k) := by
  refine ⟨by rw [zI_at, if_pos ⟨rfl, rfl⟩], fun k hk => ?_⟩
  show _ = nI (if k = c then n else ord k)
  rw [zI_pIn _ (kne (show (18 : Nat) ≠ 5 by decide)), zI_at]
  by_cases e : k = c
  · rw [if_pos ⟨rfl, e⟩, if_pos e]; exact hv
  · rw [if_neg (fun q => e q.2), if_neg e]; exact h.2 k (by omega)
theorem OM_a (h : OM M c ord) (v : Int32) (hv : v = nI n) : OM (pM (pM M 52 c v) 51 0 (nI (c + 1))) (c + 1) (fun k => if k = c then n else ord k) := by
  refine ⟨by rw [pM_s], fun k hk => ?_⟩
  show _ = nI (if k = c then n else ord k)
  rw [pMn (by decide), pM_at]
  by_cases e : k = c
  · rw [if_pos ⟨rfl, e⟩, if_pos e]; exact hv
  · rw [if_neg (fun q => e q.2), if_neg e]; exact h.2 k (by omega)
theorem gather9 (h : Tie S0 M0) : ∀ (dd k fuel : Nat) (S : zSt), k + dd = nT M0 → dd < fuel → pF S0 S → OS S (gaP (needB M0) k).1 (gaP (needB M0) k).2 → (∀ t, t < k → zI S (17, 0, 0) t = M0 2 t) → ∃ S1, lp (bG9 ()) fuel (nI k, S) = some S1 ∧ pF S0 S1 ∧ OS S1 (gaP (needB M0) (nT M0)).1 (gaP (needB M0) (nT M0)).2 ∧ (∀ t, t < nT M0 → zI S1 (17, 0, 0) t = M0 2 t) := by
  have h6 := nT6 h.1
  intro dd
  induction dd with
  | zero =>
    intro k fuel S hk hf hF hO hs
    obtain ⟨f, rfl⟩ : ∃ f, fuel = f + 1 := ⟨fuel - 1, by omega⟩
    have hk : k = nT M0 := by omega
    have ht := tie_hid h (pF_h hF) (eqM_r M0)
    subst hk
    refine ⟨S, lp_e _ f ?_, hF, hO, hs⟩
    unfold bG9
    simp only [zLs_size (ls0 ht), cl_q, Int32.le_refl, if_true]
  | succ dd ih =>
    intro k fuel S hk hf hF hO hs
    obtain ⟨f, rfl⟩ : ∃ f, fuel = f + 1 := ⟨fuel - 1, by omega⟩
    have hk1 : k < nT M0 := by omega
    have ht := tie_hid h (pF_h hF) (eqM_r M0)
    have ge : ¬ nI (nT M0) ≤ nI k := nI_ge hk1 (by omega)
    have hc := gaP_le (needB M0) k
    have e2 : zI S (8, k, 0) 0 = M0 2 k := ag ht 2 k hk1
    have F1 : pF S0 (pI S (17, 0, 0) k (M0 2 k)) := pF_t hF (pF_p (by omega) _ _)
    have hn := needs9 (tie_hid h (pF_h F1) (eqM_r M0)) hk1
    have O1 : OS (pI S (17, 0, 0) k (M0 2 k)) (gaP (needB M0) k).1 (gaP (needB M0) k).2 := by
      refine ⟨?_, fun j hj => ?_⟩
      · rw [zI_pIn _ (kne (show (5 : Nat) ≠ 17 by decide))]; exact hO.1
      · rw [zI_pIn _ (kne (show (18 : Nat) ≠ 17 by decide))]; exact hO.2 j hj
    have s1 : ∀ t, t < k + 1 → zI (pI S (17, 0, 0) k (M0 2 k)) (17, 0, 0) t = M0 2 t := by
      intro t ht
      rw [zI_at]
      by_cases e : t = k
      · rw [if_pos ⟨rfl, e⟩, e]
      · rw [if_neg (fun q => e q.2)]; exact hs t (by omega)
    have eg : gaP (needB M0) (k + 1) = if needB M0 k = true then ((gaP (needB M0) k).1 + 1, fun j => if j = (gaP (needB M0) k).1 then k else (gaP (needB M0) k).2 j) else gaP (needB M0) k := rfl
    by_cases hb : needB M0 k = true
    · rw [if_pos hb] at eg hn
      have O2 := OS_a O1 (nI k) rfl
      have eb : bG9 () (nI k, S) = some (.inl (nI (k + 1), pI (pI (pI S (17, 0, 0) k (M0 2 k)) (18, 0, 0) (gaP (needB M0) k).1 (nI k)) (5, 0, 0) 3 (nI ((gaP (needB M0) k).1 + 1)))) := by
        unfold bG9
        simp (disch := omega) only [Nat.add_sub_cancel, nI_0, c2I, c3I, c4I, c6I, c8I, c9I, c10I, c15I, c16I, c20I, c30I, c40I, c48I, c60I, c100I, c120I, c159I, c160I, c239I, c240I, c256I, c300I, c318I, c320I, c720I, c840I, c960I, c2520I, c36000I, c1048576I, nI_1, nI_add, pk_mul, nI_pred1, nI_pm1, pk_sub, pk_div, nI_clamp, nI_lz, nI_leI, nI_ltI, nI_eq, nI_z, nI_lez, nI_gez, nI_gtz, nI_m, nI_m2, nI_lem, nI_ltm, nleF, leT, ltT, ltF, eqT, eqF, false_or, or_false, not_false_eq_true, not_true_eq_false, gd_T, st_q, cl_q, cl2_q, cxr_q, cxl_q, i10, if_true, if_false, Bool.false_eq_true, zLs_size (ls0 ht), ge, zLs_get (ls0 ht) (show nT M0 ≤ 64 by omega) hk1, e2, hO.1, O1.1, hn, zI_at, Prod.mk.injEq, eqT, eqF, true_and, and_true, false_and, and_false, if_true, if_false]
      rw [lp_s _ f eb]
      refine ih (k + 1) f _ (by omega) (by omega) (pF_t F1 (pF_t (pF_p (by omega) _ _) (pF_p (by omega) _ _))) (by rw [eg]; exact O2) (fun t ht => ?_)
      rw [zI_pIn _ (kne (show (17 : Nat) ≠ 5 by decide)), zI_pIn _ (kne (show (17 : Nat) ≠ 18 by decide))]
      exact s1 t ht
    · rw [if_neg hb] at eg hn
      have eb : bG9 () (nI k, S) = some (.inl (nI (k + 1), pI S (17, 0, 0) k (M0 2 k))) := by
        unfold bG9
        simp (disch := omega) only [Nat.add_sub_cancel, nI_0, c2I, c3I, c4I, c6I, c8I, c9I, c10I, c15I, c16I, c20I, c30I, c40I, c48I, c60I, c100I, c120I, c159I, c160I, c239I, c240I, c256I, c300I, c318I, c320I, c720I, c840I, c960I, c2520I, c36000I, c1048576I, nI_1, nI_add, pk_mul, nI_pred1, nI_pm1, pk_sub, pk_div, nI_clamp, nI_lz, nI_leI, nI_ltI, nI_eq, nI_z, nI_lez, nI_gez, nI_gtz, nI_m, nI_m2, nI_lem, nI_ltm, nleF, leT, ltT, ltF, eqT, eqF, false_or, or_false, not_false_eq_true, not_true_eq_false, gd_T, st_q, cl_q, cl2_q, cxr_q, cxl_q, i10, if_true, if_false, Bool.false_eq_true, zLs_size (ls0 ht), ge, zLs_get (ls0 ht) (show nT M0 ≤ 64 by omega) hk1, e2, hO.1, hn]
      rw [lp_s _ f eb]
      exact ih (k + 1) f _ (by omega) (by omega) F1 (by rw [eg]; exact O1) s1
theorem gather10 (h : WM M0) (v : Int32) : ∀ (dd k fuel : Nat) (M : zMs), k + dd = nT M0 → dd < fuel → qF M0 M → OM M (gaP (needB M0) k).1 (gaP (needB M0) k).2 → ∃ M1, (∀ R, planR v M1 = some (.inr R) → lp (bG10 v) fuel (nI k, M) = some R) ∧ qF M0 M1 ∧ OM M1 (gaP (needB M0) (nT M0)).1 (gaP (needB M0) (nT M0)).2 := by
  have h6 := nT6 h
  intro dd
  induction dd with
  | zero =>
    intro k fuel M hk hf hF hO
    obtain ⟨f, rfl⟩ : ∃ f, fuel = f + 1 := ⟨fuel - 1, by omega⟩
    have hk : k = nT M0 := by omega
    subst hk
    refine ⟨M, fun R hR => lp_e _ f ?_, hF, hO⟩
    have e1 : M 1 0 = nI (nT M0) := by rw [hF 1 (by omega) (by omega) (by omega) (by omega)]; exact nT_e h
    unfold bG10
    dsimp only
    rw [if_pos (by rw [e1]; exact Int32.le_refl _)]
    exact hR
  | succ dd ih =>
    intro k fuel M hk hf hF hO
    obtain ⟨f, rfl⟩ : ∃ f, fuel = f + 1 := ⟨fuel - 1, by omega⟩
    have hk1 : k < nT M0 := by omega
    have hc := gaP_le (needB M0) k
    have e1 : M 1 0 = nI (nT M0) := by rw [hF 1 (by omega) (by omega) (by omega) (by omega)]; exact nT_e h
    have eT : nT M = nT M0 := by unfold nT; rw [hF 1 (by omega) (by omega) (by omega) (by omega)]
    have hn := needs10 (by rw [wm_eqM (qF_e hF)]; exact h) (t := k) (by rw [eT]; exact hk1)
    rw [needB_e (qF_e hF)] at hn
    have eg : gaP (needB M0) (k + 1) = if needB M0 k = true then ((gaP (needB M0) k).1 + 1, fun j => if j = (gaP (needB M0) k).1 then k else (gaP (needB M0) k).2 j) else gaP (needB M0) k := rfl
    by_cases hb : needB M0 k = true
    · rw [if_pos hb] at eg hn
      have O2 := OM_a hO (nI k) rfl
      have eb : bG10 v (nI k, M) = some (.inl (nI (k + 1), pM (pM M 52 (gaP (needB M0) k).1 (nI k)) 51 0 (nI ((gaP (needB M0) k).1 + 1)))) := by
        unfold bG10
        dsimp only
        rw [if_neg (by rw [e1]; exact nI_ge hk1 (by omega))]
        simp (disch := omega) only [Nat.add_sub_cancel, nI_0, c2I, c3I, c4I, c6I, c8I, c9I, c10I, c15I, c16I, c20I, c30I, c40I, c48I, c60I, c100I, c120I, c159I, c160I, c239I, c240I, c256I, c300I, c318I, c320I, c720I, c840I, c960I, c2520I, c36000I, c1048576I, nI_1, nI_add, pk_mul, nI_pred1, nI_pm1, pk_sub, pk_div, nI_clamp, nI_lz, nI_leI, nI_ltI, nI_eq, nI_z, nI_lez, nI_gez, nI_gtz, nI_m, nI_m2, nI_lem, nI_ltm, nleF, leT, ltT, ltF, eqT, eqF, false_or, or_false, not_false_eq_true, not_true_eq_false, gd_T, st_q, cl_q, cl2_q, cxr_q, cxl_q, i10, if_true, if_false, Bool.false_eq_true, hn, hO.1, pM_s, pMn]
      rw [lp_s _ f eb]
      exact ih (k + 1) f _ (by omega) (by omega) (qF_t hF (qF_t (qF_p (by omega) _ _) (qF_p (by omega) _ _))) (by rw [eg]; exact O2)
    · rw [if_neg hb] at eg hn
      have eb : bG10 v (nI k, M) = some (.inl (nI (k + 1), M)) := by
        unfold bG10
        dsimp only
        rw [if_neg (by rw [e1]; exact nI_ge hk1 (by omega))]
        simp (disch := omega) only [Nat.add_sub_cancel, nI_0, c2I, c3I, c4I, c6I, c8I, c9I, c10I, c15I, c16I, c20I, c30I, c40I, c48I, c60I, c100I, c120I, c159I, c160I, c239I, c240I, c256I, c300I, c318I, c320I, c720I, c840I, c960I, c2520I, c36000I, c1048576I, nI_1, nI_add, pk_mul, nI_pred1, nI_pm1, pk_sub, pk_div, nI_clamp, nI_lz, nI_leI, nI_ltI, nI_eq, nI_z, nI_lez, nI_gez, nI_gtz, nI_m, nI_m2, nI_lem, nI_ltm, nleF, leT, ltT, ltF, eqT, eqF, false_or, or_false, not_false_eq_true, not_true_eq_false, gd_T, st_q, cl_q, cl2_q, cxr_q, cxl_q, i10, if_true, if_false, Bool.false_eq_true, hn]
      rw [lp_s _ f eb]
      exact ih (k + 1) f _ (by omega) (by omega) hF (by rw [eg]; exact hO)
def diP (a b : Nat) : Nat := if b ≤ a then a - b else b - a
def msP (site : Nat → Nat) (ord : Nat → Nat) (a : Nat) : Nat → Nat × Nat
  | 0 => (0, a)
  | k + 1 => ((msP site ord a k).1 + diP (msP site ord a k).2 (site (ord k)), site (ord k))
theorem msP_b (ha : a ≤ 100) (hn : ∀ k, k < c → site (ord k) ≤ 100) : ∀ k, k ≤ c → (msP site ord a k).1 ≤ 100 * k ∧ (msP site ord a k).2 ≤ 100 := by
  intro k
  induction k with
  | zero => intro _; exact ⟨Nat.le_refl _, ha⟩
  | succ k ih =>
    intro hk
    obtain ⟨i1, i2⟩ := ih (by omega)
    have := hn k (by omega)
    refine ⟨?_, this⟩
    show (msP site ord a k).1 + diP (msP site ord a k).2 (site (ord k)) ≤ 100 * (k + 1)
    unfold diP
    by_cases e : site (ord k) ≤ (msP site ord a k).2
    · rw [if_pos e]; omega
    · rw [if_neg e]; omega
theorem abs_d {x y : Nat} (hx : x ≤ 100) (hy : y ≤ 100) : (if 0 ≤ nI x - nI y then nI x - nI y else 0 - (nI x - nI y)) = nI (diP y x) := by
  unfold diP
  by_cases e : x ≤ y
  · rw [if_pos e]
    by_cases e2 : x = y
    · subst e2
      rw [pk_sub (Nat.le_refl _), Nat.sub_self, nI_0, if_pos (by decide)]
    · rw [if_neg (Int32.not_le.mpr (pk_sneg (by omega) (by omega))), Int32.zero_sub, Int32.neg_sub, pk_sub e]
  · rw [if_neg e, pk_sub (by omega), if_pos (nI_pos' (by omega))]
theorem meas9 (h6 : c ≤ 6) (hO : OS S c ord) (hn : n ≤ 6) (hb : ∀ k, k < c → ord k < n) (hs : ∀ t, t < n → zI S (17, 0, 0) t = nI (site t) ∧ site t ≤ 100) (ha : a ≤ 100) : fX4_measureOrder S (nI a) = some (nI (msP site ord a c).1) := by
  unfold fX4_measureOrder
  rw [st_s, st_s, st_s]
  have hB := msP_b (c := c) ha (fun k hk => (hs (ord k) (hb k hk)).2)
  refine lp_up (fun k => (nI (msP site ord a k).1, nI (msP site ord a k).2, nI k)) c (by omega) ?_ (fun k hk => ?_) ?_
  · show _ = (nI 0, nI a, nI 0)
    rw [nI_0]
  · have eo := hO.2 k hk
    have b1 := hb k hk
    obtain ⟨e17, s1⟩ := hs (ord k) b1
    obtain ⟨i1, i2⟩ := hB k (by omega)
    have ed := abs_d s1 i2
    have c1 : (nI k).toNatClampNeg = k := nI_clamp (by omega)
    have c2 : (nI (ord k)).toNatClampNeg = ord k := nI_clamp (by omega)
    have l1 : ¬ nI c ≤ nI k := nI_ge hk (by omega)
    have l2 : ¬ (6 : Int32) ≤ nI k := by rw [c6I]; exact nI_ge (by omega) (by omega)
    have l3 : ¬ (6 : Int32) ≤ nI (ord k) := by rw [c6I]; exact nI_ge (by omega) (by omega)
    have l4 : ¬ 6 ≤ k := by omega
    have l5 : ¬ 6 ≤ ord k := by omega
    simp only [hO.1, l1, if_false, l2, c1, nI_pos (show k < 2 ^ 31 by omega), false_or, l4, not_false_eq_true, gd_T, eo, st_q, nI_pos (show ord k < 2 ^ 31 by omega), l3, c2, l5, e17, ed, nI_add, nI_1]
    rfl
  · simp only [hO.1, Int32.le_refl, if_true]
theorem meas10 (h6 : c ≤ 6) (hO : OM M c ord) (hn : n ≤ 6) (hb : ∀ k, k < c → ord k < n) (hs : ∀ t, t < n → M 2 t = nI (site t) ∧ site t ≤ 100) (ha : a ≤ 100) {v : Nat} (hv : v < 2) (hv49 : M 49 v = nI a) : fX10_lengthOf M (nI v) = some (nI (msP site ord a c).1) := by
  unfold fX10_lengthOf
  rw [st_s, gd_t (nI_in hv (by omega)), nI_clamp (by omega), hv49, st_s, st_s]
  have hB := msP_b (c := c) ha (fun k hk => (hs (ord k) (hb k hk)).2)
  refine lp_up (fun k => (nI (msP site ord a k).1, nI (msP site ord a k).2, nI k)) c (by omega) ?_ (fun k hk => ?_) ?_
  · show _ = (nI 0, nI a, nI 0)
    rw [nI_0]
  · have eo := hO.2 k hk
    have b1 := hb k hk
    obtain ⟨e17, s1⟩ := hs (ord k) b1
    obtain ⟨i1, i2⟩ := hB k (by omega)
    have ed : fX10_far M (nI (msP site ord a k).2) (nI (site (ord k))) = some (nI (diP (msP site ord a k).2 (site (ord k)))) := by
      unfold fX10_far diP
      by_cases e : site (ord k) ≤ (msP site ord a k).2
      · rw [if_pos (nI_le e (by omega)), if_pos e, pk_sub e]
      · rw [if_neg (nI_ge (by omega) (by omega)), if_neg e, pk_sub (by omega)]
    have c1 : (nI k).toNatClampNeg = k := nI_clamp (by omega)
    have c2 : (nI (ord k)).toNatClampNeg = ord k := nI_clamp (by omega)
    have l1 : ¬ nI c ≤ nI k := nI_ge hk (by omega)
    have l4 : ¬ 6 ≤ k := by omega
    have l5 : ¬ 6 ≤ ord k := by omega
    simp only [hO.1, l1, if_false, c1, nI_pos (show k < 2 ^ 31 by omega), false_or, l4, not_false_eq_true, gd_T, eo, st_q, nI_pos (show ord k < 2 ^ 31 by omega), c2, l5, e17, ed, cl_q, nI_add, nI_1]
    rfl
  · simp only [hO.1, Int32.le_refl, if_true]
def kpS (S : zSt) : Nat → zSt
  | 0 => S
  | k + 1 => pI (kpS S k) (19, 0, 0) k (zI S (18, 0, 0) k)
theorem kpS_o (S : zSt) {d : zId} (hd : d.1 ≠ 19) : ∀ k, zI (kpS S k) d = zI S d := by
  intro k
  induction k with
  | zero => rfl
  | succ k ih =>
    show zI (pI (kpS S k) (19, 0, 0) k (zI S (18, 0, 0) k)) d = _
    rw [zI_pIn _ (kne hd), ih]
theorem kpS_a (S : zSt) : ∀ c k, k < c → zI (kpS S c) (19, 0, 0) k = zI S (18, 0, 0) k := by
  intro c
  induction c with
  | zero => intro k hk; omega
  | succ c ih =>
    intro k hk
    show zI (pI (kpS S c) (19, 0, 0) c (zI S (18, 0, 0) c)) (19, 0, 0) k = _
    rw [zI_at]
    by_cases e : k = c
    · rw [if_pos ⟨rfl, e⟩, e]
    · rw [if_neg (fun q => e q.2)]; exact ih k (by omega)
theorem kpS_F (S : zSt) : ∀ k, pF S (kpS S k) := by
  intro k
  induction k with
  | zero => exact pF_r S
  | succ k ih => exact pF_t ih (pF_p (by omega) _ _)
theorem keep9 (h6 : c ≤ 6) (h3 : zI S (5, 0, 0) 3 = nI c) : fX4_keepOrder S = some (kpS S c) := by
  unfold fX4_keepOrder
  rw [st_s]
  refine lp_up (fun k => (nI k, kpS S k)) c (by omega) ?_ (fun k hk => ?_) ?_
  · show _ = (nI 0, S)
    rw [nI_0]
  · have e3 : zI (kpS S k) (5, 0, 0) 3 = nI c := by rw [kpS_o S (show (5 : Nat) ≠ 19 by decide)]; exact h3
    have e18 : zI (kpS S k) (18, 0, 0) k = zI S (18, 0, 0) k := by rw [kpS_o S (show (18 : Nat) ≠ 19 by decide)]
    simp (disch := omega) only [Nat.add_sub_cancel, nI_0, c2I, c3I, c4I, c6I, c8I, c9I, c10I, c15I, c16I, c20I, c30I, c40I, c48I, c60I, c100I, c120I, c159I, c160I, c239I, c240I, c256I, c300I, c318I, c320I, c720I, c840I, c960I, c2520I, c36000I, c1048576I, nI_1, nI_add, pk_mul, nI_pred1, nI_pm1, pk_sub, pk_div, nI_clamp, nI_lz, nI_leI, nI_ltI, nI_eq, nI_z, nI_lez, nI_gez, nI_gtz, nI_m, nI_m2, nI_lem, nI_ltm, nleF, leT, ltT, ltF, eqT, eqF, false_or, or_false, not_false_eq_true, not_true_eq_false, gd_T, st_q, cl_q, cl2_q, cxr_q, cxl_q, i10, if_true, if_false, Bool.false_eq_true, e3, e18]
    rfl
  · have e3 : zI (kpS S c) (5, 0, 0) 3 = nI c := by rw [kpS_o S (show (5 : Nat) ≠ 19 by decide)]; exact h3
    simp only [e3, Int32.le_refl, if_true]
def kpM (M : zMs) : Nat → zMs
  | 0 => M
  | k + 1 => pM (kpM M k) 53 k (M 52 k)
theorem kpM_o (M : zMs) {d : Nat} (hd : d ≠ 53) : ∀ k, kpM M k d = M d := by
  intro k
  induction k with
  | zero => rfl
  | succ k ih =>
    show pM (kpM M k) 53 k (M 52 k) d = _
    rw [pMn hd, ih]
theorem kpM_a (M : zMs) : ∀ c k, k < c → kpM M c 53 k = M 52 k := by
  intro c
  induction c with
  | zero => intro k hk; omega
  | succ c ih =>
    intro k hk
    show pM (kpM M c) 53 c (M 52 c) 53 k = _
    rw [pM_at]
    by_cases e : k = c
    · rw [if_pos ⟨rfl, e⟩, e]
    · rw [if_neg (fun q => e q.2)]; exact ih k (by omega)
theorem keep10 (J : zMs → Option ((Int32 × zMs) ⊕ ((Int32 × zMs) ⊕ zMs))) (h6 : c ≤ 6) (h51 : M 51 0 = nI c) {V : (Int32 × zMs) ⊕ ((Int32 × zMs) ⊕ zMs)} (hJ : J (kpM M c) = some V) : lp (bK10 J) 40000 (0, M) = some V := by
  refine lp_up (fun k => (nI k, kpM M k)) c (by omega) ?_ (fun k hk => ?_) ?_
  · show _ = (nI 0, M)
    rw [nI_0]
  · have e3 : kpM M k 51 0 = nI c := by rw [kpM_o M (by decide)]; exact h51
    have e18 : kpM M k 52 k = M 52 k := by rw [kpM_o M (by decide)]
    unfold bK10
    simp (disch := omega) only [Nat.add_sub_cancel, nI_0, c2I, c3I, c4I, c6I, c8I, c9I, c10I, c15I, c16I, c20I, c30I, c40I, c48I, c60I, c100I, c120I, c159I, c160I, c239I, c240I, c256I, c300I, c318I, c320I, c720I, c840I, c960I, c2520I, c36000I, c1048576I, nI_1, nI_add, pk_mul, nI_pred1, nI_pm1, pk_sub, pk_div, nI_clamp, nI_lz, nI_leI, nI_ltI, nI_eq, nI_z, nI_lez, nI_gez, nI_gtz, nI_m, nI_m2, nI_lem, nI_ltm, nleF, leT, ltT, ltF, eqT, eqF, false_or, or_false, not_false_eq_true, not_true_eq_false, gd_T, st_q, cl_q, cl2_q, cxr_q, cxl_q, i10, if_true, if_false, Bool.false_eq_true, e3, e18]
    rfl
  · have e3 : kpM M c 51 0 = nI c := by rw [kpM_o M (by decide)]; exact h51
    unfold bK10
    dsimp only
    rw [if_pos (by rw [e3]; exact Int32.le_refl _), hJ, cl_s]
end PP
