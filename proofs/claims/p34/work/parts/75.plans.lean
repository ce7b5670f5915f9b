/-! plans, as the wrappers tell them -/
def bPl0 (M : zMs) (I : Nat → Int32) (i_3 : Int32) : (Int32 × Int32 × Int32 × Int32 × Int32) → Option ((Int32 × Int32 × Int32 × Int32 × Int32) ⊕ Int32) := fun (q6 : (Int32 × Int32 × Int32 × Int32 × Int32)) =>
st (fun (u_ : Unit) => (st (0 : Int32) fun x15 =>
lp (fun (q16 : (Int32 × Int32)) => (st (fun (u_ : Unit) => (st (fun (u_ : Unit) => (gd ((0 : Int32) = 0 ∨ (0 : Int32) = 1) (some (.inr (.inr ((0 : Int32))))) : Option ((Int32 × Int32) ⊕ ((Int32 × Int32 × Int32 × Int32 × Int32) ⊕ Int32)))) fun j25 =>
if q16.1 = 0 then
j25 ()
else
if (A_way M i_3) = q6.2.1 then
gd ((1 : Int32) = 0 ∨ (1 : Int32) = 1) (some (.inr (.inr ((1 : Int32)))))
else
j25 () : Option ((Int32 × Int32) ⊕ ((Int32 × Int32 × Int32 × Int32 × Int32) ⊕ Int32)))) fun j24 =>
if (M 1 0) ≤ q16.2 then
j24 ()
else
if q16.1 = 0 then
j24 ()
else
st (fun (y26 : Int32) => (st y26 fun x28 =>
st (0 : Int32) fun x29 =>
lp (fun (q30 : (Int32 × Int32)) => (gd (¬ (q16.2 < 0 ∨ 14 ≤ q16.2.toNatClampNeg)) (
if (I q16.2.toNatClampNeg) ≤ q30.2 then
st (fun (y38 : Int32) => (st (fun (y40 : Int32) => (st (fun (y42 : Int32) => (st y42 fun x44 =>
st (q16.2 + (1 : Int32)) fun x45 =>
some (.inr (.inl (x44, x45))) : Option ((Int32 × Int32) ⊕ ((Int32 × Int32) ⊕ ((Int32 × Int32 × Int32 × Int32 × Int32) ⊕ Int32))))) fun j43 =>
if y38 = y40 then
j43 (1 : Int32)
else
j43 (0 : Int32) : Option ((Int32 × Int32) ⊕ ((Int32 × Int32) ⊕ ((Int32 × Int32 × Int32 × Int32 × Int32) ⊕ Int32))))) fun j41 =>
if ((q6.1 >>> (q16.2 &&& 31)) &&& (1 : Int32)) = (1 : Int32) then
j41 (1 : Int32)
else
j41 (0 : Int32) : Option ((Int32 × Int32) ⊕ ((Int32 × Int32) ⊕ ((Int32 × Int32 × Int32 × Int32 × Int32) ⊕ Int32))))) fun j39 =>
st (fun (u_ : Unit) => (j39 (0 : Int32) : Option ((Int32 × Int32) ⊕ ((Int32 × Int32) ⊕ ((Int32 × Int32 × Int32 × Int32 × Int32) ⊕ Int32))))) fun j46 =>
if q30.1 = 0 then
j46 ()
else
if (A_gameAt M q16.2) = (-1 : Int32) then
j39 (1 : Int32)
else
j46 ()
else
st (fun (y47 : Int32) => (st y47 fun x49 =>
st (q30.2 + (1 : Int32)) fun x50 =>
some (.inl (x49, x50)) : Option ((Int32 × Int32) ⊕ ((Int32 × Int32) ⊕ ((Int32 × Int32 × Int32 × Int32 × Int32) ⊕ Int32))))) fun j48 =>
st (fun (u_ : Unit) => (j48 (1 : Int32) : Option ((Int32 × Int32) ⊕ ((Int32 × Int32) ⊕ ((Int32 × Int32 × Int32 × Int32 × Int32) ⊕ Int32))))) fun j51 =>
if q30.1 = 0 then
if (A_sticks M q16.2 q30.2) = (1 : Int32) then
j51 ()
else
if (A_wear M q16.2 q30.2) ≤ (39 : Int32) then
j48 (0 : Int32)
else
j51 ()
else
j51 ()) : Option ((Int32 × Int32) ⊕ ((Int32 × Int32) ⊕ ((Int32 × Int32 × Int32 × Int32 × Int32) ⊕ Int32))))) 9 (x28, x29) : Option ((Int32 × Int32) ⊕ ((Int32 × Int32 × Int32 × Int32 × Int32) ⊕ Int32)))) fun j27 =>
if (A_box M q16.2) ≤ (19 : Int32) then
j27 (0 : Int32)
else
j27 (1 : Int32) : Option ((Int32 × Int32) ⊕ ((Int32 × Int32 × Int32 × Int32 × Int32) ⊕ Int32)))) 7 (q6.2.2.2.2, x15) : Option ((Int32 × Int32 × Int32 × Int32 × Int32) ⊕ Int32))) fun j14 =>
if q6.2.2.2.2 = 0 then
j14 ()
else
if (A_planned M i_3 q6.2.2.2.1) < 0 then
j14 ()
else
st (A_planned M i_3 q6.2.2.2.1) fun x52 =>
st (fun (y53 : Int32) => (st y53 fun x55 =>
st (q6.1 ||| ((1 : Int32) <<< (x52 &&& 31))) fun x56 =>
gd (¬ (((8 : Int32) + x52) < 0 ∨ 14 ≤ ((8 : Int32) + x52).toNatClampNeg)) (
cl (fL_far q6.2.2.1 (I ((8 : Int32) + x52).toNatClampNeg)) fun r57 =>
st (q6.2.1 + r57) fun x58 =>
gd (¬ (((8 : Int32) + x52) < 0 ∨ 14 ≤ ((8 : Int32) + x52).toNatClampNeg)) (
st (I ((8 : Int32) + x52).toNatClampNeg) fun x59 =>
st (q6.2.2.2.1 + (1 : Int32)) fun x60 =>
some (.inl (x56, x58, x59, x60, x55)))) : Option ((Int32 × Int32 × Int32 × Int32 × Int32) ⊕ Int32))) fun j54 =>
st (fun (u_ : Unit) => (j54 (0 : Int32) : Option ((Int32 × Int32 × Int32 × Int32 × Int32) ⊕ Int32))) fun j61 =>
if ((q6.1 >>> (x52 &&& 31)) &&& (1 : Int32)) = 0 then
if (A_gameAt M x52) = (-1 : Int32) then
j54 (1 : Int32)
else
j61 ()
else
j61 ()
def bPl1 (M : zMs) (I : Nat → Int32) (i_3 : Int32) (q6 : Int32 × Int32 × Int32 × Int32 × Int32) : (Int32 × Int32) → Option ((Int32 × Int32) ⊕ ((Int32 × Int32 × Int32 × Int32 × Int32) ⊕ Int32)) := fun (q16 : (Int32 × Int32)) =>
st (fun (u_ : Unit) => (st (fun (u_ : Unit) => (gd ((0 : Int32) = 0 ∨ (0 : Int32) = 1) (some (.inr (.inr ((0 : Int32))))) : Option ((Int32 × Int32) ⊕ ((Int32 × Int32 × Int32 × Int32 × Int32) ⊕ Int32)))) fun j25 =>
if q16.1 = 0 then
j25 ()
else
if (A_way M i_3) = q6.2.1 then
gd ((1 : Int32) = 0 ∨ (1 : Int32) = 1) (some (.inr (.inr ((1 : Int32)))))
else
j25 () : Option ((Int32 × Int32) ⊕ ((Int32 × Int32 × Int32 × Int32 × Int32) ⊕ Int32)))) fun j24 =>
if (M 1 0) ≤ q16.2 then
j24 ()
else
if q16.1 = 0 then
j24 ()
else
st (fun (y26 : Int32) => (st y26 fun x28 =>
st (0 : Int32) fun x29 =>
lp (fun (q30 : (Int32 × Int32)) => (gd (¬ (q16.2 < 0 ∨ 14 ≤ q16.2.toNatClampNeg)) (
if (I q16.2.toNatClampNeg) ≤ q30.2 then
st (fun (y38 : Int32) => (st (fun (y40 : Int32) => (st (fun (y42 : Int32) => (st y42 fun x44 =>
st (q16.2 + (1 : Int32)) fun x45 =>
some (.inr (.inl (x44, x45))) : Option ((Int32 × Int32) ⊕ ((Int32 × Int32) ⊕ ((Int32 × Int32 × Int32 × Int32 × Int32) ⊕ Int32))))) fun j43 =>
if y38 = y40 then
j43 (1 : Int32)
else
j43 (0 : Int32) : Option ((Int32 × Int32) ⊕ ((Int32 × Int32) ⊕ ((Int32 × Int32 × Int32 × Int32 × Int32) ⊕ Int32))))) fun j41 =>
if ((q6.1 >>> (q16.2 &&& 31)) &&& (1 : Int32)) = (1 : Int32) then
j41 (1 : Int32)
else
j41 (0 : Int32) : Option ((Int32 × Int32) ⊕ ((Int32 × Int32) ⊕ ((Int32 × Int32 × Int32 × Int32 × Int32) ⊕ Int32))))) fun j39 =>
st (fun (u_ : Unit) => (j39 (0 : Int32) : Option ((Int32 × Int32) ⊕ ((Int32 × Int32) ⊕ ((Int32 × Int32 × Int32 × Int32 × Int32) ⊕ Int32))))) fun j46 =>
if q30.1 = 0 then
j46 ()
else
if (A_gameAt M q16.2) = (-1 : Int32) then
j39 (1 : Int32)
else
j46 ()
else
st (fun (y47 : Int32) => (st y47 fun x49 =>
st (q30.2 + (1 : Int32)) fun x50 =>
some (.inl (x49, x50)) : Option ((Int32 × Int32) ⊕ ((Int32 × Int32) ⊕ ((Int32 × Int32 × Int32 × Int32 × Int32) ⊕ Int32))))) fun j48 =>
st (fun (u_ : Unit) => (j48 (1 : Int32) : Option ((Int32 × Int32) ⊕ ((Int32 × Int32) ⊕ ((Int32 × Int32 × Int32 × Int32 × Int32) ⊕ Int32))))) fun j51 =>
if q30.1 = 0 then
if (A_sticks M q16.2 q30.2) = (1 : Int32) then
j51 ()
else
if (A_wear M q16.2 q30.2) ≤ (39 : Int32) then
j48 (0 : Int32)
else
j51 ()
else
j51 ()) : Option ((Int32 × Int32) ⊕ ((Int32 × Int32) ⊕ ((Int32 × Int32 × Int32 × Int32 × Int32) ⊕ Int32))))) 9 (x28, x29) : Option ((Int32 × Int32) ⊕ ((Int32 × Int32 × Int32 × Int32 × Int32) ⊕ Int32)))) fun j27 =>
if (A_box M q16.2) ≤ (19 : Int32) then
j27 (0 : Int32)
else
j27 (1 : Int32)
def bPl2 (M : zMs) (I : Nat → Int32) (q6 : Int32 × Int32 × Int32 × Int32 × Int32) (q16 : Int32 × Int32) : (Int32 × Int32) → Option ((Int32 × Int32) ⊕ ((Int32 × Int32) ⊕ ((Int32 × Int32 × Int32 × Int32 × Int32) ⊕ Int32))) := fun (q30 : (Int32 × Int32)) =>
gd (¬ (q16.2 < 0 ∨ 14 ≤ q16.2.toNatClampNeg)) (
if (I q16.2.toNatClampNeg) ≤ q30.2 then
st (fun (y38 : Int32) => (st (fun (y40 : Int32) => (st (fun (y42 : Int32) => (st y42 fun x44 =>
st (q16.2 + (1 : Int32)) fun x45 =>
some (.inr (.inl (x44, x45))) : Option ((Int32 × Int32) ⊕ ((Int32 × Int32) ⊕ ((Int32 × Int32 × Int32 × Int32 × Int32) ⊕ Int32))))) fun j43 =>
if y38 = y40 then
j43 (1 : Int32)
else
j43 (0 : Int32) : Option ((Int32 × Int32) ⊕ ((Int32 × Int32) ⊕ ((Int32 × Int32 × Int32 × Int32 × Int32) ⊕ Int32))))) fun j41 =>
if ((q6.1 >>> (q16.2 &&& 31)) &&& (1 : Int32)) = (1 : Int32) then
j41 (1 : Int32)
else
j41 (0 : Int32) : Option ((Int32 × Int32) ⊕ ((Int32 × Int32) ⊕ ((Int32 × Int32 × Int32 × Int32 × Int32) ⊕ Int32))))) fun j39 =>
st (fun (u_ : Unit) => (j39 (0 : Int32) : Option ((Int32 × Int32) ⊕ ((Int32 × Int32) ⊕ ((Int32 × Int32 × Int32 × Int32 × Int32) ⊕ Int32))))) fun j46 =>
if q30.1 = 0 then
j46 ()
else
if (A_gameAt M q16.2) = (-1 : Int32) then
j39 (1 : Int32)
else
j46 ()
else
st (fun (y47 : Int32) => (st y47 fun x49 =>
st (q30.2 + (1 : Int32)) fun x50 =>
some (.inl (x49, x50)) : Option ((Int32 × Int32) ⊕ ((Int32 × Int32) ⊕ ((Int32 × Int32 × Int32 × Int32 × Int32) ⊕ Int32))))) fun j48 =>
st (fun (u_ : Unit) => (j48 (1 : Int32) : Option ((Int32 × Int32) ⊕ ((Int32 × Int32) ⊕ ((Int32 × Int32 × Int32 × Int32 × Int32) ⊕ Int32))))) fun j51 =>
if q30.1 = 0 then
if (A_sticks M q16.2 q30.2) = (1 : Int32) then
j51 ()
else
if (A_wear M q16.2 q30.2) ≤ (39 : Int32) then
j48 (0 : Int32)
else
j51 ()
else
j51 ())
def mkB (bst : Nat → Nat) : Nat → Nat
  | 0 => 0
  | k + 1 => mkB bst k ||| 2 ^ bst k
theorem bt_or : ∀ m, m < 64 → ∀ t, t < 6 → nI m ||| ((1 : Int32) <<< (nI t &&& 31)) = nI (m ||| 2 ^ t) ∧ m ||| 2 ^ t < 64 ∧ ∀ s, s < 6 → (m ||| 2 ^ t).testBit s = (m.testBit s || decide (t = s)) := by decide +kernel
theorem bt_sh : ∀ m, m < 64 → ∀ t, t < 6 → (nI m >>> (nI t &&& 31)) &&& (1 : Int32) = if m.testBit t = true then 1 else 0 := by decide +kernel
theorem msP_c {site ord ord1 : Nat → Nat} {a : Nat} : ∀ c, (∀ k, k < c → ord1 k = ord k) → msP site ord1 a c = msP site ord a c := by
  intro c
  induction c with
  | zero => intro _; rfl
  | succ c ih =>
    intro h
    show ((msP site ord1 a c).1 + diP (msP site ord1 a c).2 (site (ord1 c)), site (ord1 c)) = ((msP site ord a c).1 + diP (msP site ord a c).2 (site (ord c)), site (ord c))
    rw [ih (fun k hk => h k (by omega)), h c (by omega)]
theorem cB_a (M : zMs) (J : Int32) : ∀ (d i : Nat), cB M J i (d + 1) = cB M J i d + (if bB M J (i + d) = true then 1 else 0) := by
  intro d
  induction d with
  | zero =>
    intro i
    show (if bB M J i = true then 1 else 0) + 0 = 0 + (if bB M J (i + 0) = true then 1 else 0)
    rw [Nat.add_zero, Nat.add_zero, Nat.zero_add]
  | succ d ih =>
    intro i
    show (if bB M J i = true then 1 else 0) + cB M J (i + 1) (d + 1) = (if bB M J i = true then 1 else 0) + cB M J (i + 1) d + (if bB M J (i + (d + 1)) = true then 1 else 0)
    rw [ih (i + 1), show i + 1 + d = i + (d + 1) by omega, Nat.add_assoc]
theorem bdS_n (M : zMs) (J : Int32) (t : Nat) : ∀ n, bdS M J t n = nI (cB M J (8 * t) n) := by
  intro n
  induction n with
  | zero => exact nI_0.symm
  | succ n ih =>
    show (if bB M J (8 * t + n) = true then bdS M J t n + 1 else bdS M J t n) = nI (cB M J (8 * t) (n + 1))
    rw [cB_a, ih]
    by_cases e : bB M J (8 * t + n) = true
    · rw [if_pos e, if_pos e, nI_1]
    · rw [if_neg e, if_neg e, Nat.add_zero]
section PPL
variable {S : zSt} {M M1 : zMs} {I : Nat → Int32} {v k c t : Nat}
theorem fst_some {α : Type} {a b : α} (h : some a = some b) : a = b := Option.some.inj h
/-- what a van plans: the tables, and the length of the way -/
theorem plA (h : Tie S M) (hv : v < 2) : ∃ c a bst, c ≤ 6 ∧ a ≤ 100 ∧ M 49 v = nI a ∧ Pm c (fun t => needB M t = true) bst ∧ (∀ k, k < c → A_planned M (nI v) (nI k) = nI (bst k)) ∧ (∀ k, c ≤ k → k < 2 ^ 31 → A_planned M (nI v) (nI k) = -2000000001) ∧ A_way M (nI v) = nI (msP (fun t => (M 2 t).toNatClampNeg) bst a c).1 ∧ (c = 0 → A_go M (nI v) = -2000000003 ∧ N_go M (nI v) = M) ∧
    (0 < c → A_go M (nI v) = gS M bst 0 0 c ∧ (∃ S2, Tie S2 (N_go M (nI v))) ∧ ∃ M1, qF M M1 ∧ goR (pM M1 0 0 0) (N_go M (nI v)) v bst 0 c) := by
  obtain ⟨S1, M1, e9, e10, h1, p7, s5, p2, a, bst, ha, e49, hPm, hb, h54, S2, M2, l9, l10, h2, h20, hR⟩ := go_eq h hv
  obtain ⟨S1', M1', e9', e10', hB', a', ha', e49', hQ'⟩ := search_eq2 (tie_ref h 0) hv
  obtain ⟨S1w, M1w, e9w, e10w, hBw, hw⟩ := sp_way h hv
  obtain ⟨-, -, ⟨b9, p3'⟩, -⟩ := hB'
  obtain ⟨bst', q1', q2', q3'⟩ := hQ'
  have eN : needB (pM M 0 0 0) = needB M := funext (needB_e (eqM_ref 0))
  have eS : S1' = S1 := Option.some.inj (e9'.symm.trans e9)
  have eM : M1w = M1' := Option.some.inj (e10w.symm.trans e10')
  have hc := gap6 h.1
  have hT6 := nT6 h.1
  rw [eN] at p3' q1' q2' q3'
  have eT : nT (pM M 0 0 0) = nT M := rfl
  rw [eT] at p3' q1' q2' q3'
  have e2 : pM M 0 0 0 2 = M 2 := pMn (by decide) _ _
  rw [e2] at q3'
  have ea : a' = a := by
    rw [pMn (by decide), e49] at e49'
    exact ((nI_eq (by omega) (by omega)).mp e49').symm
  obtain ⟨-, -, -, -, -, -, -, hx⟩ := id hR
  clear hx
  -- the same order
  have hs1 : ∀ k, k < (gaP (needB M) (nT M)).1 → zI S1 (19, 0, 0) k = nI (bst k) := fun k hk => by
    obtain ⟨S1a, M1a, a9, a10, ⟨-, -, ⟨bb, hbb⟩, -⟩⟩ := search_eq h hv
    have x1 : S1a = S1 := Option.some.inj (a9.symm.trans e9)
    have x2 : M1a = M1 := Option.some.inj (a10.symm.trans e10)
    rw [x1, x2] at hbb
    exact (hbb k hk).2.1.trans ((hbb k hk).2.2.symm.trans (hb k hk).2)
  have eb : ∀ k, k < (gaP (needB M) (nT M)).1 → bst' k = bst k := fun k hk => by
    have y1 := (p3' k hk).2.1
    rw [eS, hs1 k hk] at y1
    have y2 := (p3' k hk).2.2
    rw [q2' k hk, ← y1] at y2
    have z1 : bst' k < nT M := (of_decide_eq_true (q1'.2.1 k hk)).1
    have z2 := (hb k hk).1
    exact (nI_eq (by omega) (by omega)).mp y2
  refine ⟨(gaP (needB M) (nT M)).1, a, bst, hc, ha, e49, hPm, fun k hk => ?_, fun k hk hk2 => ?_, ?_, fun h0 => ?_, fun h0 => ?_⟩
  · exact (an_d (sp_planned hv e10 p7 hc p2 hk)).trans (hb k hk).2
  · exact (an_f (so_plannedL hv e10 p7 hc p2 hk2 hk) i1n).trans (by decide)
  · refine (an_d hw).trans ?_
    rw [eM, q3', ea, msP_c _ eb]
  · exact rf_go2 hv e10 p7 (by rw [p2, h0]; exact nI_0)
  · have e := sp_go1 hv e10 h0 hc p2
    rw [l10] at e
    obtain ⟨x1, x2⟩ := an_e (nums := [1, 3]) (M := M) e h20
    have x2 : N_go M (nI v) = M2 := x2
    have x1 : A_go M (nI v) = gS M bst 0 0 (gaP (needB M) (nT M)).1 := x1
    rw [x2]
    exact ⟨x1, ⟨S2, h2⟩, M1, p7, hR⟩
/-- whether a table needs service, of j bumpers -/
def nd (M : zMs) (t : Nat) : Nat → Bool
  | 0 => decide (¬ M 4 t ≤ 19)
  | j + 1 => nd M t j || (bB M 0 (8 * t + j) || bB M 1 (8 * t + j))
theorem nd_i (M : zMs) (t : Nat) : ∀ n, nd M t n = true ↔ (¬ M 4 t ≤ 19 ∨ 0 < cB M 0 (8 * t) n ∨ 0 < cB M 1 (8 * t) n) := by
  intro n
  induction n with
  | zero =>
    show decide (¬ M 4 t ≤ 19) = true ↔ _
    rw [decide_eq_true_iff]
    exact ⟨Or.inl, fun q => q.elim id (fun q => q.elim (fun q => absurd q (Nat.lt_irrefl 0)) (fun q => absurd q (Nat.lt_irrefl 0)))⟩
  | succ n ih =>
    show (nd M t n || (bB M 0 (8 * t + n) || bB M 1 (8 * t + n))) = true ↔ _
    rw [Bool.or_eq_true, Bool.or_eq_true, ih, cB_a, cB_a]
    by_cases e0 : bB M 0 (8 * t + n) = true
    · rw [if_pos e0]
      exact ⟨fun _ => Or.inr (Or.inl (by omega)), fun _ => Or.inr (Or.inl e0)⟩
    · rw [if_neg e0]
      by_cases e1 : bB M 1 (8 * t + n) = true
      · rw [if_pos e1]
        exact ⟨fun _ => Or.inr (Or.inr (by omega)), fun _ => Or.inr (Or.inr e1)⟩
      · rw [if_neg e1, Nat.add_zero, Nat.add_zero]
        exact ⟨fun q => q.elim id (fun q => q.elim (fun q => absurd q e0) (fun q => absurd q e1)), Or.inl⟩
theorem le19 (x : Int32) : (¬ x ≤ 19) ↔ 20 ≤ x := by
  rw [Int32.not_le, Int32.lt_iff_toInt_lt, Int32.le_iff_toInt_le]
  have h1 : (19 : Int32).toInt = 19 := by decide
  have h2 : (20 : Int32).toInt = 20 := by decide
  omega
theorem le39 (x : Int32) : x ≤ 39 ↔ x < 40 := by
  rw [Int32.lt_iff_toInt_lt, Int32.le_iff_toInt_le]
  have h1 : (39 : Int32).toInt = 39 := by decide
  have h2 : (40 : Int32).toInt = 40 := by decide
  omega
theorem gtz {n : Nat} (hn : n < 2 ^ 31) : (0 : Int32) < nI n ↔ 0 < n := by
  rw [← nI_0, nI_ltI (by omega) hn]
theorem needB_i (h : WM M) (ht : t < nT M) : needB M t = true ↔ (M 7 t = -1 ∧ nd M t (nB M t) = true) := by
  have hT6 := nT6 h
  have h8 := nB8 h (t := t) (by omega)
  have c0 := cB_le M 0 (nB M t) (8 * t)
  have c1 := cB_le M 1 (nB M t) (8 * t)
  rw [nd_i, le19]
  unfold needB
  rw [decide_eq_true_iff, bdS_n, bdS_n, gtz (by omega), gtz (by omega)]
  exact ⟨fun q => q.2, fun q => ⟨ht, q⟩⟩
theorem pl_in (h : WM M) (hI : ∀ t, t < 6 → I t = nI (nB M t)) (ht : t < nT M) (q6 : Int32 × Int32 × Int32 × Int32 × Int32) {m : Nat} (hm : m < 64) (e6 : q6.1 = nI m) (hbit : m.testBit t = true ↔ needB M t = true) : lp (bPl2 M I q6 (1, nI t)) 9 ((if nd M t 0 = true then 1 else 0), 0) = some (.inl (1, nI (t + 1))) := by
  have hT6 := nT6 h
  have h8 := nB8 h (t := t) (by omega)
  have ct : (nI t).toNatClampNeg = t := nI_clamp (by omega)
  have gd14 : ¬ (nI t < 0 ∨ 14 ≤ (nI t).toNatClampNeg) := fun q => q.elim (nI_pos (by omega)) (by rw [ct]; omega)
  refine lp_up (fun j => ((if nd M t j = true then (1 : Int32) else 0), nI j)) (nB M t) (by omega) ?_ (fun j hj => ?_) ?_
  · show _ = (_, nI 0)
    rw [nI_0]
  · unfold bPl2
    refine gd_of gd14 ?_
    refine if_f (by rw [ct, hI t (by omega)]; exact nI_ge hj (by omega)) ?_
    refine st_j ?_
    refine st_j ?_
    have fin : ∀ y : Int32, y = (if nd M t (j + 1) = true then 1 else 0) → (st y fun x49 => st (nI j + (1 : Int32)) fun x50 => (some (.inl (x49, x50)) : Option ((Int32 × Int32) ⊕ ((Int32 × Int32) ⊕ ((Int32 × Int32 × Int32 × Int32 × Int32) ⊕ Int32))))) = some (.inl ((if nd M t (j + 1) = true then (1 : Int32) else 0), nI (j + 1))) := by
      intro y hy
      refine st_v hy ?_
      refine st_v (nI_1 j) ?_
      rfl
    have es : nd M t (j + 1) = (nd M t j || (bB M 0 (8 * t + j) || bB M 1 (8 * t + j))) := rfl
    by_cases e0 : nd M t j = true
    · refine if_f (by show ¬ (if nd M t j = true then (1 : Int32) else 0) = 0; rw [if_pos e0]; decide) ?_
      refine st_j ?_
      exact fin 1 (by rw [es, e0, Bool.true_or, if_pos rfl])
    · refine if_t (by show (if nd M t j = true then (1 : Int32) else 0) = 0; rw [if_neg e0]) ?_
      have e0 : nd M t j = false := Bool.eq_false_iff.mpr e0
      have b0 : bB M 0 (8 * t + j) = decide (M 16 (8 * t + j) ≠ -1) := rfl
      have b1 : bB M 1 (8 * t + j) = decide (¬ M 15 (8 * t + j) < 40) := rfl
      by_cases e16 : M 16 (8 * t + j) = -1
      · refine if_f (by rw [vA_sticks h ht hj, if_pos e16]; decide) ?_
        by_cases e15 : M 15 (8 * t + j) < 40
        · refine if_t (by rw [vA_wear h ht hj]; exact (le39 _).mpr e15) ?_
          exact fin 0 (by rw [es, e0, b0, b1, decide_eq_false (fun q => q e16), decide_eq_false (fun q => q e15)]; rfl)
        · refine if_f (by rw [vA_wear h ht hj]; exact fun q => e15 ((le39 _).mp q)) ?_
          refine st_j ?_
          exact fin 1 (by rw [es, e0, b0, b1, decide_eq_false (fun q => q e16), decide_eq_true e15]; rfl)
      · refine if_t (by rw [vA_sticks h ht hj, if_neg e16]) ?_
        refine st_j ?_
        exact fin 1 (by rw [es, e0, b0, b1, decide_eq_true e16]; rfl)
  · unfold bPl2
    refine gd_of gd14 ?_
    refine if_t (by rw [ct, hI t (by omega)]; exact Int32.le_refl _) ?_
    have ebit := bt_sh m hm t (by omega)
    have key : ∀ y : Int32, y = (if needB M t = true then (1 : Int32) else 0) → (st (fun (y40 : Int32) => (st (fun (y42 : Int32) => (st y42 fun x44 => st (nI t + (1 : Int32)) fun x45 => (some (.inr (.inl (x44, x45))) : Option ((Int32 × Int32) ⊕ ((Int32 × Int32) ⊕ ((Int32 × Int32 × Int32 × Int32 × Int32) ⊕ Int32)))))) fun j43 => if y = y40 then j43 (1 : Int32) else j43 (0 : Int32))) fun j41 => if ((q6.1 >>> (nI t &&& 31)) &&& (1 : Int32)) = (1 : Int32) then j41 (1 : Int32) else j41 (0 : Int32)) = some (.inr (.inl (1, nI (t + 1)))) := by
      intro y hy
      refine st_j ?_
      by_cases eb : needB M t = true
      · refine if_t (by rw [e6, ebit, if_pos (hbit.mpr eb)]) ?_
        refine st_j ?_
        refine if_t (by rw [hy, if_pos eb]) ?_
        refine st_j ?_
        refine st_v (nI_1 t) ?_
        rfl
      · refine if_f (by rw [e6, ebit, if_neg (fun q => eb (hbit.mp q))]; decide) ?_
        refine st_j ?_
        refine if_t (by rw [hy, if_neg eb]) ?_
        refine st_j ?_
        refine st_v (nI_1 t) ?_
        rfl
    refine st_j ?_
    refine st_j ?_
    by_cases e0 : nd M t (nB M t) = true
    · refine if_f (by show ¬ (if nd M t (nB M t) = true then (1 : Int32) else 0) = 0; rw [if_pos e0]; decide) ?_
      by_cases e7 : M 7 t = -1
      · refine if_t (by rw [vA_gameAt h ht]; exact e7) ?_
        exact key 1 (by rw [if_pos ((needB_i h ht).mpr ⟨e7, e0⟩)])
      · refine if_f (by rw [vA_gameAt h ht]; exact e7) ?_
        refine st_j ?_
        exact key 0 (by rw [if_neg (fun q => e7 ((needB_i h ht).mp q).1)])
    · refine if_t (by show (if nd M t (nB M t) = true then (1 : Int32) else 0) = 0; rw [if_neg e0]) ?_
      refine st_j ?_
      exact key 0 (by rw [if_neg (fun q => e0 ((needB_i h ht).mp q).2)])
theorem mkB_b {bst : Nat → Nat} : ∀ c, (∀ k, k < c → bst k < 6) → mkB bst c < 64 ∧ ∀ s, s < 6 → ((mkB bst c).testBit s = true ↔ ∃ i, i < c ∧ bst i = s) := by
  intro c
  induction c with
  | zero => exact fun _ => ⟨(show (0 : Nat) < 64 by decide), fun s _ => ⟨fun q => absurd q (by show ¬ Nat.testBit 0 s = true; rw [Nat.zero_testBit]; decide), fun ⟨i, hi, _⟩ => absurd hi (Nat.not_lt_zero _)⟩⟩
  | succ c ih =>
    intro h
    obtain ⟨i1, i2⟩ := ih (fun k hk => h k (by omega))
    obtain ⟨-, o2, o3⟩ := bt_or _ i1 (bst c) (h c (by omega))
    refine ⟨o2, fun s hs => ?_⟩
    show (mkB bst c ||| 2 ^ bst c).testBit s = true ↔ _
    rw [o3 s hs, Bool.or_eq_true, decide_eq_true_iff, i2 s hs]
    refine ⟨fun q => ?_, fun ⟨i, hi, e⟩ => ?_⟩
    · rcases q with ⟨i, hi, e⟩ | e
      · exact ⟨i, by omega, e⟩
      · exact ⟨c, by omega, e⟩
    · by_cases ec : i = c
      · exact Or.inr (by rw [← ec]; exact e)
      · exact Or.inl ⟨i, by omega, e⟩
theorem far_n {a b : Nat} (ha : a ≤ 100) (hb : b ≤ 100) : fL_far (nI a) (nI b) = some (nI (diP a b)) := by
  unfold fL_far diP
  by_cases e : b ≤ a
  · rw [if_pos (nI_le e (by omega)), if_pos e, pk_sub e]
  · rw [if_neg (nI_ge (by omega) (by omega)), if_neg e, pk_sub (by omega)]
theorem plans_ok (h : Tie S M) (hI : ∀ t, t < 6 → I t = nI (nB M t)) (hP : ∀ t, t < nT M → I (8 + t) = M 2 t) (hv : v < 2) : fL_plans M I (nI v) = some 1 := by
  obtain ⟨c, a, bst, hc, ha, e49, hPm, hpl, hpn, hway, -, -⟩ := plA h hv
  have hT6 := nT6 h.1
  have hbT : ∀ k, k < c → bst k < nT M := fun k hk => (of_decide_eq_true (hPm.2.1 k hk)).1
  have hb6 : ∀ k, k < c → bst k < 6 := fun k hk => by have := hbT k hk; omega
  have hsM : ∀ t, t < nT M → M 2 t = nI ((M 2 t).toNatClampNeg) ∧ (M 2 t).toNatClampNeg ≤ 100 := fun t ht => by
    obtain ⟨e, -, h2⟩ := rng_n (h.1.2.2.2.2.1 t ht).1 (by omega)
    exact ⟨e, h2⟩
  have hmb := msP_b (site := fun t => (M 2 t).toNatClampNeg) (ord := bst) (c := c) ha (fun k hk => (hsM _ (hbT k hk)).2)
  unfold fL_plans
  refine st_j ?_
  refine st_j ?_
  refine st_v (v1 := nI a) ((vA_vanAt hv).trans e49) ?_
  refine st_j ?_
  refine st_j ?_
  refine lp_up (body := bPl0 M I (nI v)) (fun k => (nI (mkB bst k), nI (msP (fun t => (M 2 t).toNatClampNeg) bst a k).1, nI (msP (fun t => (M 2 t).toNatClampNeg) bst a k).2, nI k, (1 : Int32))) c (by omega) ?_ (fun k hk => ?_) ?_
  · show ((0 : Int32), (0 : Int32), nI a, (0 : Int32), (1 : Int32)) = (nI 0, nI 0, nI a, nI 0, (1 : Int32))
    rw [nI_0]
  · have ht := hbT k hk
    have hs := hsM _ ht
    obtain ⟨m1, m2⟩ := hmb k (by omega)
    obtain ⟨b1, b2⟩ := mkB_b (bst := bst) k (fun j hj => hb6 j (by omega))
    have c8 : (8 : Int32) + nI (bst k) = nI (8 + bst k) := by rw [show (8 : Int32) = nI 8 by decide, nI_add]
    have ct : (nI (8 + bst k)).toNatClampNeg = 8 + bst k := nI_clamp (by omega)
    have g14 : ¬ ((8 : Int32) + nI (bst k) < 0 ∨ 14 ≤ ((8 : Int32) + nI (bst k)).toNatClampNeg) := by
      rw [c8, ct]
      exact fun q => q.elim (nI_pos (by omega)) (by omega)
    have eI : I ((8 : Int32) + nI (bst k)).toNatClampNeg = nI ((M 2 (bst k)).toNatClampNeg) := by rw [c8, ct, hP _ ht]; exact hs.1
    have e7 : M 7 (bst k) = -1 := ((needB_i h.1 ht).mp (hPm.2.1 k hk)).1
    unfold bPl0
    refine st_j ?_
    refine if_f i10 ?_
    refine if_f (by show ¬ A_planned M (nI v) (nI k) < 0; rw [hpl k hk]; exact nI_pos (by omega)) ?_
    refine st_v (hpl k hk) ?_
    refine st_j ?_
    refine st_j ?_
    refine if_t ?_ ?_
    · show (nI (mkB bst k) >>> (nI (bst k) &&& 31)) &&& (1 : Int32) = 0
      rw [bt_sh _ b1 _ (hb6 k hk), if_neg]
      intro q
      obtain ⟨i, hi, e⟩ := (b2 _ (hb6 k hk)).mp q
      have := hPm.1 i k (by omega) hk e
      omega
    · refine if_t ((vA_gameAt h.1 ht).trans e7) ?_
      refine st_j ?_
      refine st_v (bt_or _ b1 _ (hb6 k hk)).1 ?_
      refine gd_of g14 ?_
      have hfar : fL_far (nI (msP (fun t => (M 2 t).toNatClampNeg) bst a k).2) (I ((8 : Int32) + nI (bst k)).toNatClampNeg) = some (nI (diP (msP (fun t => (M 2 t).toNatClampNeg) bst a k).2 ((M 2 (bst k)).toNatClampNeg))) := by
        rw [eI]
        exact far_n m2 hs.2
      refine cl_of hfar ?_
      refine st_v (nI_add _ _) ?_
      refine gd_of g14 ?_
      refine st_v eI ?_
      refine st_v (nI_1 k) ?_
      rfl
  · obtain ⟨b1, b2⟩ := mkB_b (bst := bst) c hb6
    unfold bPl0
    refine st_j ?_
    refine if_f i10 ?_
    refine if_t (by show A_planned M (nI v) (nI c) < 0; rw [hpn c (Nat.le_refl _) (by omega)]; decide) ?_
    refine st_j ?_
    generalize hq : ((nI (mkB bst c), nI (msP (fun t => (M 2 t).toNatClampNeg) bst a c).1, nI (msP (fun t => (M 2 t).toNatClampNeg) bst a c).2, nI c, (1 : Int32)) : Int32 × Int32 × Int32 × Int32 × Int32) = q6
    have q61 : q6.1 = nI (mkB bst c) := by rw [← hq]
    have q62 : q6.2.1 = nI (msP (fun t => (M 2 t).toNatClampNeg) bst a c).1 := by rw [← hq]
    have q65 : q6.2.2.2.2 = 1 := by rw [← hq]
    rw [q65]
    refine lp_up (body := bPl1 M I (nI v) q6) (fun t => ((1 : Int32), nI t)) (nT M) (by omega) ?_ (fun t ht => ?_) ?_
    · show _ = (_, nI 0)
      rw [nI_0]
    · unfold bPl1
      refine st_j ?_
      refine if_f (by show ¬ M 1 0 ≤ nI t; rw [nT_e h.1]; exact nI_ge ht (by omega)) ?_
      refine if_f i10 ?_
      refine st_j ?_
      have hin := pl_in h.1 hI ht q6 b1 q61 (by
        rw [b2 t (by omega)]
        exact ⟨fun ⟨i, hi, e⟩ => by rw [← e]; exact hPm.2.1 i hi, fun q => hPm.2.2 t q⟩)
      have e0 : nd M t 0 = decide (¬ M 4 t ≤ 19) := rfl
      by_cases e4 : M 4 t ≤ 19
      · refine if_t (by show A_box M (nI t) ≤ 19; rw [vA_box h.1 ht]; exact e4) ?_
        refine st_j ?_
        refine st_j ?_
        rw [e0, decide_eq_false (fun q => q e4), if_neg (by decide)] at hin
        exact hin
      · refine if_f (by show ¬ A_box M (nI t) ≤ 19; rw [vA_box h.1 ht]; exact e4) ?_
        refine st_j ?_
        refine st_j ?_
        rw [e0, decide_eq_true e4, if_pos rfl] at hin
        exact hin
    · unfold bPl1
      refine st_j ?_
      refine if_t (by show M 1 0 ≤ nI (nT M); rw [nT_e h.1]; exact Int32.le_refl _) ?_
      refine st_j ?_
      refine if_f i10 ?_
      refine if_t (hway.trans q62.symm) ?_
      exact gd_of (Or.inr rfl) rfl
end PPL
