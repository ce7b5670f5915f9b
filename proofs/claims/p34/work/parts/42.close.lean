/-! a switch is closed: the class's Play, the reference's rows -/
def bX10_begin (i_1 : Int32) (S8 : zMs) : (Int32) → Option ((Int32) ⊕ zMs) := fun (q11 : (Int32)) =>
if (4 : Int32) ≤ q11 then
some (.inr (S8))
else
if (3 : Int32) ≤ (S8 42 0) then
some (.inr (S8))
else
gd (¬ ((((4 : Int32) * (S8 40 0)) + q11) < 0 ∨ 160 ≤ (((4 : Int32) * (S8 40 0)) + q11).toNatClampNeg)) (
st (fun (u_ : Unit) => (st (q11 + (1 : Int32)) fun x18 =>
some (.inl (x18)) : Option ((Int32) ⊕ zMs))) fun j17 =>
if (S8 29 (((4 : Int32) * (S8 40 0)) + q11).toNatClampNeg) = i_1 then
cl (fX10_isOn S8 q11) fun r19 =>
if r19 = 0 then
gd (¬ ((S8 42 0) < 0 ∨ 3 ≤ (S8 42 0).toNatClampNeg)) (
st (pM S8 43 (S8 42 0).toNatClampNeg q11) fun M22 =>
gd (¬ ((M22 42 0) < 0 ∨ 3 ≤ (M22 42 0).toNatClampNeg)) (
st (pM M22 44 (M22 42 0).toNatClampNeg (0 : Int32)) fun M23 =>
st (pM M23 42 0 ((M23 42 0) + (1 : Int32))) fun M24 =>
some (.inr (M24))))
else
j17 ()
else
j17 ())
def bX10_isOn (M : zMs) (i_1 : Int32) : (Int32 × Int32) → Option ((Int32 × Int32) ⊕ Int32) := fun (q3 : (Int32 × Int32)) =>
if (M 42 0) ≤ q3.2 then
some (.inr (q3.1))
else
st (fun (y10 : Int32) => (st y10 fun x13 =>
st (q3.2 + (1 : Int32)) fun x14 =>
some (.inl (x13, x14)) : Option ((Int32 × Int32) ⊕ Int32))) fun j12 =>
st (fun (u_ : Unit) => (j12 (1 : Int32) : Option ((Int32 × Int32) ⊕ Int32))) fun j15 =>
if q3.1 = 0 then
gd (¬ (q3.2 < 0 ∨ 3 ≤ q3.2.toNatClampNeg)) (
if (M 43 q3.2.toNatClampNeg) = i_1 then
j15 ()
else
j12 (0 : Int32))
else
j15 ()
def bX5_isSt (S : zSt) (a_z : Nat) (b_z : Nat) (i_1 : Int32) : (Int32) → Option ((Int32) ⊕ Int32) := fun (q2 : (Int32)) =>
st (fun (u_ : Unit) => (some (.inr ((0 : Int32))) : Option ((Int32) ⊕ Int32))) fun j8 =>
if (zI S (6, a_z, b_z) 2) ≤ q2 then
j8 ()
else
if (3 : Int32) ≤ q2 then
j8 ()
else
gd (¬ (q2 < 0 ∨ 3 ≤ q2.toNatClampNeg)) (
if (zI S (14, a_z, b_z) q2.toNatClampNeg) = i_1 then
some (.inr ((1 : Int32)))
else
st (q2 + (1 : Int32)) fun x11 =>
some (.inl (x11)))
def bX5_begin (S : zSt) (a_z : Nat) (b_z : Nat) (a_1 : Nat) (b_1 : Nat) (i_2 : Int32) : (Int32) → Option ((Int32) ⊕ zSt) := fun (q4 : (Int32)) =>
if (4 : Int32) ≤ q4 then
some (.inr (S))
else
cl (fX6_modeOf S a_1 b_1 q4) fun r10 =>
om r10 (
st (fun (u_ : Unit) => (st (q4 + (1 : Int32)) fun x16 =>
some (.inl (x16)) : Option ((Int32) ⊕ zSt))) fun j15 =>
j15 ()) fun n13 =>
st (fun (u_ : Unit) => (st (q4 + (1 : Int32)) fun x18 =>
some (.inl (x18)) : Option ((Int32) ⊕ zSt))) fun j17 =>
if (zI S (4, n13, 0) 0) = i_2 then
cl (fX5_isStacked S a_z b_z q4) fun r19 =>
if r19 = 0 then
gd (¬ ((zI S (6, a_z, b_z) 2) < 0 ∨ 3 ≤ (zI S (6, a_z, b_z) 2).toNatClampNeg)) (
st (pI S (14, a_z, b_z) (zI S (6, a_z, b_z) 2).toNatClampNeg q4) fun S23 =>
gd (¬ ((zI S23 (6, a_z, b_z) 2) < 0 ∨ 3 ≤ (zI S23 (6, a_z, b_z) 2).toNatClampNeg)) (
st (pI S23 (15, a_z, b_z) (zI S23 (6, a_z, b_z) 2).toNatClampNeg (0 : Int32)) fun S25 =>
st (pI S25 (6, a_z, b_z) 2 ((zI S25 (6, a_z, b_z) 2) + (1 : Int32))) fun S26 =>
some (.inr (S26))))
else
j17 ()
else
j17 ()
def beginX (i_1 : Int32) (S8 : zMs) : Option zMs := st (0 : Int32) fun x10 => lp (bX10_begin i_1 S8) 40000 (x10)
def closeX (M : zMs) (i_1 : Int32) : Option zMs :=
st (fun (y1 : Int32) => (st y1 fun x3 =>
st (fun (y4 : Int32) => (st y4 fun x6 =>
gd (¬ ((((8 : Int32) * (M 40 0)) + i_1) < 0 ∨ 320 ≤ (((8 : Int32) * (M 40 0)) + i_1).toNatClampNeg)) (
st (pM M 41 0 ((M 41 0) + (x6 * (M 28 (((8 : Int32) * (M 40 0)) + i_1).toNatClampNeg)))) fun M7 =>
if (M7 42 0) ≤ 0 then
beginX i_1 M7
else
gd (¬ (((M7 42 0) - (1 : Int32)) < 0 ∨ 3 ≤ ((M7 42 0) - (1 : Int32)).toNatClampNeg)) (
gd (¬ (((M7 42 0) - (1 : Int32)) < 0 ∨ 3 ≤ ((M7 42 0) - (1 : Int32)).toNatClampNeg)) (
st (pM M7 44 ((M7 42 0) - (1 : Int32)).toNatClampNeg ((M7 44 ((M7 42 0) - (1 : Int32)).toNatClampNeg) + (1 : Int32))) fun M25 =>
gd (¬ (x3 < 0 ∨ 160 ≤ x3.toNatClampNeg)) (
st (fun (u_ : Unit) => (gd (¬ (x3 < 0 ∨ 160 ≤ x3.toNatClampNeg)) (
st (pM M25 41 0 ((M25 41 0) + (M25 33 x3.toNatClampNeg))) fun M27 =>
st (pM M27 42 0 ((M27 42 0) - (1 : Int32))) fun M28 =>
some (M28)) : Option zMs)) fun j26 =>
if i_1 = (M25 30 x3.toNatClampNeg) then
j26 ()
else
gd (¬ (((M25 42 0) - (1 : Int32)) < 0 ∨ 3 ≤ ((M25 42 0) - (1 : Int32)).toNatClampNeg)) (
gd (¬ (x3 < 0 ∨ 160 ≤ x3.toNatClampNeg)) (
if (M25 44 ((M25 42 0) - (1 : Int32)).toNatClampNeg) = (M25 31 x3.toNatClampNeg) then
j26 ()
else
beginX i_1 M25)))))) : Option zMs)) fun j5 =>
if (M 42 0) = 0 then
j5 (1 : Int32)
else
gd (¬ (x3 < 0 ∨ 160 ≤ x3.toNatClampNeg)) (
j5 (M 32 x3.toNatClampNeg)) : Option zMs)) fun j2 =>
if (M 42 0) = 0 then
j2 (-1 : Int32)
else
gd (¬ (((M 42 0) - (1 : Int32)) < 0 ∨ 3 ≤ ((M 42 0) - (1 : Int32)).toNatClampNeg)) (
j2 (((4 : Int32) * (M 40 0)) + (M 43 ((M 42 0) - (1 : Int32)).toNatClampNeg)))
theorem close_eq (M : zMs) (i : Int32) : fX10_close M i = closeX M i := rfl
def anyB (f : Nat → Bool) : Nat → Bool
  | 0 => false
  | k + 1 => anyB f k || f k
theorem anyB_c {f f1 : Nat → Bool} : ∀ {n : Nat}, (∀ k, k < n → f k = f1 k) → anyB f n = anyB f1 n := by
  intro n
  induction n with
  | zero => intro _; rfl
  | succ n ih =>
    intro h
    show (anyB f n || f n) = (anyB f1 n || f1 n)
    rw [ih (fun k hk => h k (by omega)), h n (by omega)]
theorem anyB_t {f : Nat → Bool} {k : Nat} (hf : f k = true) : ∀ {n : Nat}, k < n → anyB f n = true := by
  intro n
  induction n with
  | zero => intro h; omega
  | succ n ih =>
    intro h
    show (anyB f n || f n) = true
    by_cases e : k = n
    · rw [← e, hf, Bool.or_true]
    · rw [ih (by omega), Bool.true_or]
/-- a play as numbers: score, depth, what is stacked, hits -/
def nrm (d : Nat) (f : Nat → Int32) : Nat → Int32 := fun i => if i < d then f i else 0
def up1 (f : Nat → Int32) (i : Nat) (v : Int32) : Nat → Int32 := fun j => if j = i then v else f j
abbrev plT : Type := Int32 × Nat × (Nat → Int32) × (Nat → Int32)
def plM (M : zMs) : plT := (M 41 0, (M 42 0).toNatClampNeg, nrm (M 42 0).toNatClampNeg (M 43), nrm (M 42 0).toNatClampNeg (M 44))
def bgB (M : zMs) (g k : Nat) (s : plT) (j : Nat) : Bool := decide (M 29 (4 * g + j) = nI k) && !(anyB (fun i => decide (s.2.2.1 i = nI j)) s.2.1)
def bgC (M : zMs) (g k : Nat) (s : plT) (j : Nat) : Prop := M 29 (4 * g + j) = nI k ∧ anyB (fun i => decide (s.2.2.1 i = nI j)) s.2.1 = false
theorem bgB_i (M : zMs) (g k : Nat) (s : plT) (j : Nat) : bgB M g k s j = true ↔ bgC M g k s j := by
  unfold bgB bgC
  rw [Bool.and_eq_true, decide_eq_true_iff, Bool.not_eq_true']
def bgJ (M : zMs) (g k : Nat) (s : plT) : Nat → Nat → plT
  | _, 0 => s
  | j, f + 1 => if bgB M g k s j = true then (s.1, s.2.1 + 1, up1 s.2.2.1 s.2.1 (nI j), up1 s.2.2.2 s.2.1 0) else bgJ M g k s (j + 1) f
def bgn (M : zMs) (g k : Nat) (s : plT) : plT := if s.2.1 < 3 then bgJ M g k s 0 4 else s
def cls (M : zMs) (g k : Nat) (s : plT) : plT := match s.2.1 with
  | 0 => bgn M g k (s.1 + M 28 (8 * g + k), 0, s.2.2.1, s.2.2.2)
  | e + 1 => if nI k = M 30 (4 * g + (s.2.2.1 e).toNatClampNeg % 4) ∨ s.2.2.2 e + 1 = M 31 (4 * g + (s.2.2.1 e).toNatClampNeg % 4) then
      (s.1 + M 32 (4 * g + (s.2.2.1 e).toNatClampNeg % 4) * M 28 (8 * g + k) + M 33 (4 * g + (s.2.2.1 e).toNatClampNeg % 4), e, nrm e s.2.2.1, nrm e s.2.2.2)
    else bgn M g k (s.1 + M 32 (4 * g + (s.2.2.1 e).toNatClampNeg % 4) * M 28 (8 * g + k), e + 1, s.2.2.1, up1 s.2.2.2 e (s.2.2.2 e + 1))
def plS (M : zMs) (g : Nat) (l : List Nat) (s : plT) : plT := l.foldl (fun s e => cls M g (e % 16) s) s
theorem plM_e {M : zMs} {d : Nat} (h : M 42 0 = nI d) (h3 : d ≤ 3) : plM M = (M 41 0, d, nrm d (M 43), nrm d (M 44)) := by
  unfold plM
  rw [h, nI_clamp (by omega)]
theorem nrm_up (d : Nat) (f : Nat → Int32) (v : Int32) : nrm (d + 1) (up1 f d v) = up1 (nrm d f) d v := by
  funext j
  unfold nrm up1
  by_cases e : j = d
  · rw [if_pos (by omega), if_pos e, if_pos e]
  · rw [if_neg e, if_neg e]
    show (if j < d + 1 then f j else 0) = if j < d then f j else 0
    by_cases e1 : j < d
    · rw [if_pos e1, if_pos (by omega)]
    · rw [if_neg e1, if_neg (by omega)]
theorem nrm_lt {d i : Nat} (h : i < d) (f : Nat → Int32) (v : Int32) : nrm d (up1 f i v) = up1 (nrm d f) i v := by
  funext j
  unfold nrm up1
  by_cases e : j = i
  · rw [if_pos (by omega), if_pos e, if_pos e]
  · rw [if_neg e, if_neg e]
theorem nrm_ge (d : Nat) (f : Nat → Int32) (v : Int32) : nrm d (up1 f d v) = nrm d f := by
  funext j
  unfold nrm up1
  by_cases e : j < d
  · rw [if_pos e, if_pos e, if_neg (by omega)]
  · rw [if_neg e, if_neg e]
theorem nrm_n {d e : Nat} (h : d ≤ e) (f : Nat → Int32) : nrm d (nrm e f) = nrm d f := by
  funext j
  unfold nrm
  by_cases a : j < d
  · rw [if_pos a, if_pos a, if_pos (by omega)]
  · rw [if_neg a, if_neg a]
theorem nrm_a {d i : Nat} (h : i < d) (f : Nat → Int32) : nrm d f i = f i := if_pos h
theorem pM_up (M : zMs) (k i : Nat) (v : Int32) : pM M k i v k = up1 (M k) i v := by
  funext j
  rw [pM_at]
  unfold up1
  by_cases e : j = i
  · rw [if_pos ⟨rfl, e⟩, if_pos e]
  · rw [if_neg (fun q => e q.2), if_neg e]
theorem bgJ_r {M M1 : zMs} {g k : Nat} (h : M1 29 = M 29) (s : plT) : ∀ f j, bgJ M1 g k s j f = bgJ M g k s j f := by
  intro f
  induction f with
  | zero => intro j; rfl
  | succ f ih =>
    intro j
    have e : bgB M1 g k s j = bgB M g k s j := by unfold bgB; rw [h]
    show (if bgB M1 g k s j = true then _ else bgJ M1 g k s (j + 1) f) = (if bgB M g k s j = true then _ else bgJ M g k s (j + 1) f)
    rw [e, ih]
theorem bgn_r {M M1 : zMs} {g k : Nat} (h : M1 29 = M 29) (s : plT) : bgn M1 g k s = bgn M g k s := by
  unfold bgn
  rw [bgJ_r h]
/-- the rules of a game alone count -/
def rulE (M M1 : zMs) (g : Nat) : Prop := (∀ k, k < 8 → M1 28 (8 * g + k) = M 28 (8 * g + k)) ∧ ∀ r, 29 ≤ r → r ≤ 33 → ∀ j, j < 4 → M1 r (4 * g + j) = M r (4 * g + j)
theorem bgJ_g {M M1 : zMs} {g k : Nat} (h : ∀ j, j < 4 → M1 29 (4 * g + j) = M 29 (4 * g + j)) (s : plT) : ∀ f j, j + f ≤ 4 → bgJ M1 g k s j f = bgJ M g k s j f := by
  intro f
  induction f with
  | zero => intro j _; rfl
  | succ f ih =>
    intro j hj
    have e : bgB M1 g k s j = bgB M g k s j := by unfold bgB; rw [h j (by omega)]
    show (if bgB M1 g k s j = true then _ else bgJ M1 g k s (j + 1) f) = (if bgB M g k s j = true then _ else bgJ M g k s (j + 1) f)
    rw [e, ih (j + 1) (by omega)]
theorem cls_g {M M1 : zMs} {g k : Nat} (h28 : M1 28 (8 * g + k) = M 28 (8 * g + k)) (h : ∀ r, 29 ≤ r → r ≤ 33 → ∀ j, j < 4 → M1 r (4 * g + j) = M r (4 * g + j)) (s : plT) : cls M1 g k s = cls M g k s := by
  have hB : ∀ s : plT, bgn M1 g k s = bgn M g k s := fun s => by
    unfold bgn
    rw [bgJ_g (h 29 (by omega) (by omega)) s 4 0 (by omega)]
  have h4 : ∀ n : Nat, n % 4 < 4 := fun n => Nat.mod_lt _ (by omega)
  unfold cls
  simp only [h28, h 30 (by omega) (by omega) _ (h4 _), h 31 (by omega) (by omega) _ (h4 _), h 32 (by omega) (by omega) _ (h4 _), h 33 (by omega) (by omega) _ (h4 _), hB]
theorem plS_g {M M1 : zMs} {g : Nat} (h : rulE M M1 g) : ∀ (l : List Nat) (s : plT), (∀ e, e ∈ l → e % 16 < 8) → plS M1 g l s = plS M g l s := by
  intro l
  induction l with
  | nil => intro s _; rfl
  | cons e l ih =>
    intro s hl
    show plS M1 g l (cls M1 g (e % 16) s) = plS M g l (cls M g (e % 16) s)
    rw [cls_g (h.1 _ (hl e (List.mem_cons_self ..))) h.2 s]
    exact ih _ (fun x hx => hl x (List.mem_cons_of_mem _ hx))
theorem plS_a (M : zMs) (g : Nat) (l : List Nat) (e : Nat) (s : plT) : plS M g (l ++ [e]) s = cls M g (e % 16) (plS M g l s) := by
  unfold plS
  rw [List.foldl_append]
  rfl
theorem plS_ap (M : zMs) (g : Nat) (l r : List Nat) (s : plT) : plS M g (l ++ r) s = plS M g r (plS M g l s) := by
  unfold plS
  rw [List.foldl_append]
section PC
variable {S S1 : zSt} {M M1 : zMs} {a b g d k : Nat}
theorem isOn_eq {d : Nat} (hd : M 42 0 = nI d) (h3 : d ≤ 3) (x : Int32) : fX10_isOn M x = some (if anyB (fun k => decide (M 43 k = x)) d = true then 1 else 0) := by
  unfold fX10_isOn
  rw [st_s, st_s]
  show lp (bX10_isOn M x) 40000 (0, 0) = _
  refine lp_up (fun k => ((if anyB (fun k => decide (M 43 k = x)) k = true then 1 else 0), nI k)) d (by omega) rfl (fun k hk => ?_) ?_
  · unfold bX10_isOn
    have e : anyB (fun k => decide (M 43 k = x)) (k + 1) = (anyB (fun k => decide (M 43 k = x)) k || decide (M 43 k = x)) := rfl
    by_cases h1 : anyB (fun k => decide (M 43 k = x)) k = true
    · rw [h1, Bool.true_or] at e
      simp (disch := omega) only [Nat.add_sub_cancel, nI_0, c2I, c3I, c4I, c6I, c8I, c9I, c10I, c15I, c16I, c20I, c30I, c40I, c48I, c60I, c100I, c120I, c159I, c160I, c239I, c240I, c256I, c300I, c318I, c320I, c720I, c840I, c960I, c2520I, c36000I, c1048576I, nI_1, nI_add, pk_mul, nI_pred1, nI_pm1, pk_sub, pk_div, nI_clamp, nI_lz, nI_leI, nI_ltI, nI_eq, nI_z, nI_lez, nI_gez, nI_gtz, nI_m, nI_m2, nI_lem, nI_ltm, nleF, leT, ltT, ltF, eqT, eqF, false_or, or_false, not_false_eq_true, not_true_eq_false, gd_T, st_q, cl_q, cl2_q, cxr_q, cxl_q, i10, if_true, if_false, Bool.false_eq_true, hd, h1, e]
    · by_cases h2 : M 43 k = x
      · rw [decide_eq_true h2, Bool.or_true] at e
        simp (disch := omega) only [Nat.add_sub_cancel, nI_0, c2I, c3I, c4I, c6I, c8I, c9I, c10I, c15I, c16I, c20I, c30I, c40I, c48I, c60I, c100I, c120I, c159I, c160I, c239I, c240I, c256I, c300I, c318I, c320I, c720I, c840I, c960I, c2520I, c36000I, c1048576I, nI_1, nI_add, pk_mul, nI_pred1, nI_pm1, pk_sub, pk_div, nI_clamp, nI_lz, nI_leI, nI_ltI, nI_eq, nI_z, nI_lez, nI_gez, nI_gtz, nI_m, nI_m2, nI_lem, nI_ltm, nleF, leT, ltT, ltF, eqT, eqF, false_or, or_false, not_false_eq_true, not_true_eq_false, gd_T, st_q, cl_q, cl2_q, cxr_q, cxl_q, i10, if_true, if_false, Bool.false_eq_true, hd, h1, h2, e]
        try simp
      · rw [decide_eq_false h2, Bool.or_false] at e
        rw [e]
        simp (disch := omega) only [Nat.add_sub_cancel, nI_0, c2I, c3I, c4I, c6I, c8I, c9I, c10I, c15I, c16I, c20I, c30I, c40I, c48I, c60I, c100I, c120I, c159I, c160I, c239I, c240I, c256I, c300I, c318I, c320I, c720I, c840I, c960I, c2520I, c36000I, c1048576I, nI_1, nI_add, pk_mul, nI_pred1, nI_pm1, pk_sub, pk_div, nI_clamp, nI_lz, nI_leI, nI_ltI, nI_eq, nI_z, nI_lez, nI_gez, nI_gtz, nI_m, nI_m2, nI_lem, nI_ltm, nleF, leT, ltT, ltF, eqT, eqF, false_or, or_false, not_false_eq_true, not_true_eq_false, gd_T, st_q, cl_q, cl2_q, cxr_q, cxl_q, i10, if_true, if_false, Bool.false_eq_true, hd, h1, h2]
        try simp
  · unfold bX10_isOn
    simp (disch := omega) only [Nat.add_sub_cancel, nI_0, c2I, c3I, c4I, c6I, c8I, c9I, c10I, c15I, c16I, c20I, c30I, c40I, c48I, c60I, c100I, c120I, c159I, c160I, c239I, c240I, c256I, c300I, c318I, c320I, c720I, c840I, c960I, c2520I, c36000I, c1048576I, nI_1, nI_add, pk_mul, nI_pred1, nI_pm1, pk_sub, pk_div, nI_clamp, nI_lz, nI_leI, nI_ltI, nI_eq, nI_z, nI_lez, nI_gez, nI_gtz, nI_m, nI_m2, nI_lem, nI_ltm, nleF, leT, ltT, ltF, eqT, eqF, false_or, or_false, not_false_eq_true, not_true_eq_false, gd_T, st_q, cl_q, cl2_q, cxr_q, cxl_q, i10, if_true, if_false, Bool.false_eq_true, hd]
theorem isSt_eq {d : Nat} (hd : zI S (6, a, b) 2 = nI d) (h3 : d ≤ 3) (x : Int32) : fX5_isStacked S a b x = some (if anyB (fun k => decide (zI S (14, a, b) k = x)) d = true then 1 else 0) := by
  unfold fX5_isStacked
  rw [st_s]
  show lp (bX5_isSt S a b x) 40000 0 = _
  have : ∀ dd k fuel, k + dd = d → dd < fuel → anyB (fun k => decide (zI S (14, a, b) k = x)) k = false → lp (bX5_isSt S a b x) fuel (nI k) = some (if anyB (fun k => decide (zI S (14, a, b) k = x)) d = true then 1 else 0) := by
    intro dd
    induction dd with
    | zero =>
      intro k fuel hk hf hn
      obtain ⟨f, rfl⟩ : ∃ f, fuel = f + 1 := ⟨fuel - 1, by omega⟩
      have hk : k = d := by omega
      subst hk
      refine lp_e _ f ?_
      unfold bX5_isSt
      simp (disch := omega) only [Nat.add_sub_cancel, nI_0, c2I, c3I, c4I, c6I, c8I, c9I, c10I, c15I, c16I, c20I, c30I, c40I, c48I, c60I, c100I, c120I, c159I, c160I, c239I, c240I, c256I, c300I, c318I, c320I, c720I, c840I, c960I, c2520I, c36000I, c1048576I, nI_1, nI_add, pk_mul, nI_pred1, nI_pm1, pk_sub, pk_div, nI_clamp, nI_lz, nI_leI, nI_ltI, nI_eq, nI_z, nI_lez, nI_gez, nI_gtz, nI_m, nI_m2, nI_lem, nI_ltm, nleF, leT, ltT, ltF, eqT, eqF, false_or, or_false, not_false_eq_true, not_true_eq_false, gd_T, st_q, cl_q, cl2_q, cxr_q, cxl_q, i10, if_true, if_false, Bool.false_eq_true, hd, hn]
      try simp
    | succ dd ih =>
      intro k fuel hk hf hn
      obtain ⟨f, rfl⟩ : ∃ f, fuel = f + 1 := ⟨fuel - 1, by omega⟩
      by_cases h2 : zI S (14, a, b) k = x
      · have e : anyB (fun k => decide (zI S (14, a, b) k = x)) d = true := anyB_t (k := k) (decide_eq_true h2) (by omega)
        refine lp_e _ f ?_
        unfold bX5_isSt
        simp (disch := omega) only [Nat.add_sub_cancel, nI_0, c2I, c3I, c4I, c6I, c8I, c9I, c10I, c15I, c16I, c20I, c30I, c40I, c48I, c60I, c100I, c120I, c159I, c160I, c239I, c240I, c256I, c300I, c318I, c320I, c720I, c840I, c960I, c2520I, c36000I, c1048576I, nI_1, nI_add, pk_mul, nI_pred1, nI_pm1, pk_sub, pk_div, nI_clamp, nI_lz, nI_leI, nI_ltI, nI_eq, nI_z, nI_lez, nI_gez, nI_gtz, nI_m, nI_m2, nI_lem, nI_ltm, nleF, leT, ltT, ltF, eqT, eqF, false_or, or_false, not_false_eq_true, not_true_eq_false, gd_T, st_q, cl_q, cl2_q, cxr_q, cxl_q, i10, if_true, if_false, Bool.false_eq_true, hd, h2, e]
      · have hn1 : anyB (fun k => decide (zI S (14, a, b) k = x)) (k + 1) = false := by
          show (anyB (fun k => decide (zI S (14, a, b) k = x)) k || decide (zI S (14, a, b) k = x)) = false
          rw [hn, decide_eq_false h2]; rfl
        have eb : bX5_isSt S a b x (nI k) = some (.inl (nI (k + 1))) := by
          unfold bX5_isSt
          simp (disch := omega) only [Nat.add_sub_cancel, nI_0, c2I, c3I, c4I, c6I, c8I, c9I, c10I, c15I, c16I, c20I, c30I, c40I, c48I, c60I, c100I, c120I, c159I, c160I, c239I, c240I, c256I, c300I, c318I, c320I, c720I, c840I, c960I, c2520I, c36000I, c1048576I, nI_1, nI_add, pk_mul, nI_pred1, nI_pm1, pk_sub, pk_div, nI_clamp, nI_lz, nI_leI, nI_ltI, nI_eq, nI_z, nI_lez, nI_gez, nI_gtz, nI_m, nI_m2, nI_lem, nI_ltm, nleF, leT, ltT, ltF, eqT, eqF, false_or, or_false, not_false_eq_true, not_true_eq_false, gd_T, st_q, cl_q, cl2_q, cxr_q, cxl_q, i10, if_true, if_false, Bool.false_eq_true, hd, h2]
        rw [lp_s _ f eb]
        exact ih (k + 1) f (by omega) (by omega) hn1
  have h0 := this d 0 40000 (by omega) (by omega) rfl
  rw [nI_0] at h0
  exact h0
/-- the rules of a game, alike -/
def RU (S : zSt) (M : zMs) (g : Nat) : Prop :=
  (∀ k, k < 8 → ∃ n, n ≤ 1000 ∧ zI S (12, 1, g) k = nI n ∧ M 28 (8 * g + k) = nI n) ∧
  (∀ j, j < 4 → (zQ S (13, 1, g) j = none ∧ M 29 (4 * g + j) = -1) ∨ ∃ n B E L T P, zQ S (13, 1, g) j = some n ∧ B ≤ 9 ∧ E ≤ 9 ∧ L ≤ 20 ∧ T ≤ 9 ∧ P ≤ 5000 ∧
    zI S (4, n, 0) 0 = nI B ∧ M 29 (4 * g + j) = nI B ∧ zI S (4, n, 0) 1 = nI E ∧ M 30 (4 * g + j) = nI E ∧ zI S (4, n, 0) 2 = nI L ∧ M 31 (4 * g + j) = nI L ∧ zI S (4, n, 0) 3 = nI T ∧ M 32 (4 * g + j) = nI T ∧ zI S (4, n, 0) 4 = nI P ∧ M 33 (4 * g + j) = nI P)
/-- the score that is played, alike -/
def PT (S : zSt) (a b : Nat) (M : zMs) (g d : Nat) : Prop :=
  M 40 0 = nI g ∧ M 42 0 = nI d ∧ d ≤ 3 ∧ zI S (6, a, b) 2 = nI d ∧ zI S (6, a, b) 3 = M 41 0 ∧
  ∀ k, k < d → ∃ j, j < 4 ∧ M 43 k = nI j ∧ zI S (14, a, b) k = nI j ∧ M 29 (4 * g + j) ≠ -1 ∧ zI S (15, a, b) k = M 44 k
def plF (S S1 : zSt) (a b : Nat) : Prop := (∀ c : zId, c ≠ (6, a, b) → c ≠ (14, a, b) → c ≠ (15, a, b) → zI S1 c = zI S c) ∧ (∀ c, zL S1 c = zL S c) ∧ (∀ c, zQ S1 c = zQ S c) ∧ (∀ c, zN S1 c = zN S c) ∧ (∀ c, zV S1 c = zV S c)
def clF (M M1 : zMs) : Prop := ∀ k, k ≠ 41 → k ≠ 42 → k ≠ 43 → k ≠ 44 → M1 k = M k
theorem plF_t {S2 : zSt} (h : plF S S1 a b) (h1 : plF S1 S2 a b) : plF S S2 a b := ⟨fun c x y z => (h1.1 c x y z).trans (h.1 c x y z), fun c => (h1.2.1 c).trans (h.2.1 c), fun c => (h1.2.2.1 c).trans (h.2.2.1 c), fun c => (h1.2.2.2.1 c).trans (h.2.2.2.1 c), fun c => (h1.2.2.2.2 c).trans (h.2.2.2.2 c)⟩
theorem plF_p {q : Nat} (hq : q = 6 ∨ q = 14 ∨ q = 15) (k : Nat) (v : Int32) : plF S (pI S (q, a, b) k v) a b := by
  refine ⟨fun c x y z => zI_pIn S ?_ k v, fun _ => rfl, fun _ => rfl, fun _ => rfl, fun _ => rfl⟩
  rcases hq with rfl | rfl | rfl
  · exact x
  · exact y
  · exact z
theorem plF_r (S : zSt) (a b : Nat) : plF S S a b := ⟨fun _ _ _ _ => rfl, fun _ => rfl, fun _ => rfl, fun _ => rfl, fun _ => rfl⟩
theorem clF_t {M2 : zMs} (h : clF M M1) (h1 : clF M1 M2) : clF M M2 := fun k x y z w => (h1 k x y z w).trans (h k x y z w)
theorem clF_p {q : Nat} (hq : q = 41 ∨ q = 42 ∨ q = 43 ∨ q = 44) (i : Nat) (v : Int32) : clF M (pM M q i v) := fun k x y z w => pMn (by omega) i v
theorem clF_r (M : zMs) : clF M M := fun _ _ _ _ _ => rfl
theorem clF_eqM (h : clF M M1) : eqM M M1 := fun k hk => h k (by unfold visR at hk; omega) (by unfold visR at hk; omega) (by unfold visR at hk; omega) (by unfold visR at hk; omega)
theorem RU_F (h : RU S M g) (hs : plF S S1 a b) (hm : clF M M1) : RU S1 M1 g := by
  have e12 : zI S1 (12, 1, g) = zI S (12, 1, g) := hs.1 _ (kne (show (12 : Nat) ≠ 6 by decide)) (kne (show (12 : Nat) ≠ 14 by decide)) (kne (show (12 : Nat) ≠ 15 by decide))
  have e4 : ∀ n, zI S1 (4, n, 0) = zI S (4, n, 0) := fun n => hs.1 _ (kne (show (4 : Nat) ≠ 6 by decide)) (kne (show (4 : Nat) ≠ 14 by decide)) (kne (show (4 : Nat) ≠ 15 by decide))
  have r : ∀ k, k < 40 → M1 k = M k := fun k hk => hm k (by omega) (by omega) (by omega) (by omega)
  have : RU S1 M1 g = RU S M g := by
    unfold RU
    simp only [e12, e4, hs.2.2.1, r 28 (by omega), r 29 (by omega), r 30 (by omega), r 31 (by omega), r 32 (by omega), r 33 (by omega)]
  rw [this]
  exact h
theorem modeOf_eq (S : zSt) (x y : Nat) {j : Nat} (hj : j < 4) : fX6_modeOf S x y (nI j) = some (zQ S (13, x, y) j) := by
  unfold fX6_modeOf
  simp (disch := omega) only [Nat.add_sub_cancel, nI_0, c2I, c3I, c4I, c6I, c8I, c9I, c10I, c15I, c16I, c20I, c30I, c40I, c48I, c60I, c100I, c120I, c159I, c160I, c239I, c240I, c256I, c300I, c318I, c320I, c720I, c840I, c960I, c2520I, c36000I, c1048576I, nI_1, nI_add, pk_mul, nI_pred1, nI_pm1, pk_sub, pk_div, nI_clamp, nI_lz, nI_leI, nI_ltI, nI_eq, nI_z, nI_lez, nI_gez, nI_gtz, nI_m, nI_m2, nI_lem, nI_ltm, nleF, leT, ltT, ltF, eqT, eqF, false_or, or_false, not_false_eq_true, not_true_eq_false, gd_T, st_q, cl_q, cl2_q, cxr_q, cxl_q, i10, if_true, if_false, Bool.false_eq_true]
theorem pointsOf_eq (S : zSt) (x y : Nat) {j : Nat} (hj : j < 8) : fX6_pointsOf S x y (nI j) = some (zI S (12, x, y) j) := by
  unfold fX6_pointsOf
  simp (disch := omega) only [Nat.add_sub_cancel, nI_0, c2I, c3I, c4I, c6I, c8I, c9I, c10I, c15I, c16I, c20I, c30I, c40I, c48I, c60I, c100I, c120I, c159I, c160I, c239I, c240I, c256I, c300I, c318I, c320I, c720I, c840I, c960I, c2520I, c36000I, c1048576I, nI_1, nI_add, pk_mul, nI_pred1, nI_pm1, pk_sub, pk_div, nI_clamp, nI_lz, nI_leI, nI_ltI, nI_eq, nI_z, nI_lez, nI_gez, nI_gtz, nI_m, nI_m2, nI_lem, nI_ltm, nleF, leT, ltT, ltF, eqT, eqF, false_or, or_false, not_false_eq_true, not_true_eq_false, gd_T, st_q, cl_q, cl2_q, cxr_q, cxl_q, i10, if_true, if_false, Bool.false_eq_true]
theorem bgm (hg : g < 40) (hR : RU S M g) (hp : PT S a b M g d) (hk : k < 8) : ∃ S1 M1 d1, fX5_beginMode S a b 1 g (nI k) = some S1 ∧ beginX (nI k) M = some M1 ∧ PT S1 a b M1 g d1 ∧ plF S S1 a b ∧ clF M M1 ∧ M1 41 = M 41 ∧ plM M1 = bgn M g k (plM M) := by
  obtain ⟨p40, p42, p3, s2, s3, ps⟩ := hp
  have hpl := plM_e p42 p3
  by_cases d3 : d = 3
  · refine ⟨S, M, d, ?_, ?_, ⟨p40, p42, p3, s2, s3, ps⟩, plF_r S a b, clF_r M, rfl, ?_⟩
    · unfold fX5_beginMode
      simp (disch := omega) only [Nat.add_sub_cancel, nI_0, c2I, c3I, c4I, c6I, c8I, c9I, c10I, c15I, c16I, c20I, c30I, c40I, c48I, c60I, c100I, c120I, c159I, c160I, c239I, c240I, c256I, c300I, c318I, c320I, c720I, c840I, c960I, c2520I, c36000I, c1048576I, nI_1, nI_add, pk_mul, nI_pred1, nI_pm1, pk_sub, pk_div, nI_clamp, nI_lz, nI_leI, nI_ltI, nI_eq, nI_z, nI_lez, nI_gez, nI_gtz, nI_m, nI_m2, nI_lem, nI_ltm, nleF, leT, ltT, ltF, eqT, eqF, false_or, or_false, not_false_eq_true, not_true_eq_false, gd_T, st_q, cl_q, cl2_q, cxr_q, cxl_q, i10, if_true, if_false, Bool.false_eq_true, s2]
    · unfold beginX
      rw [st_s]
      refine lp_e _ _ ?_
      unfold bX10_begin
      simp (disch := omega) only [Nat.add_sub_cancel, nI_0, c2I, c3I, c4I, c6I, c8I, c9I, c10I, c15I, c16I, c20I, c30I, c40I, c48I, c60I, c100I, c120I, c159I, c160I, c239I, c240I, c256I, c300I, c318I, c320I, c720I, c840I, c960I, c2520I, c36000I, c1048576I, nI_1, nI_add, pk_mul, nI_pred1, nI_pm1, pk_sub, pk_div, nI_clamp, nI_lz, nI_leI, nI_ltI, nI_eq, nI_z, nI_lez, nI_gez, nI_gtz, nI_m, nI_m2, nI_lem, nI_ltm, nleF, leT, ltT, ltF, eqT, eqF, false_or, or_false, not_false_eq_true, not_true_eq_false, gd_T, st_q, cl_q, cl2_q, cxr_q, cxl_q, i10, if_true, if_false, Bool.false_eq_true, p42]
      try simp
    · unfold bgn
      rw [hpl]
      exact (if_neg (show ¬ d < 3 by omega)).symm
  · have hon : ∀ x, anyB (fun i => decide (M 43 i = x)) d = anyB (fun i => decide (zI S (14, a, b) i = x)) d := by
      intro x
      refine anyB_c (fun i hi => ?_)
      obtain ⟨j, -, e1, e2, -⟩ := ps i hi
      rw [e1, e2]
    have main : ∀ dd j fuel, j + dd = 4 → dd < fuel → ∃ S1 M1 d1, lp (bX5_begin S a b 1 g (nI k)) fuel (nI j) = some S1 ∧ lp (bX10_begin (nI k) M) fuel (nI j) = some M1 ∧ PT S1 a b M1 g d1 ∧ plF S S1 a b ∧ clF M M1 ∧ M1 41 = M 41 ∧ plM M1 = bgJ M g k (plM M) j dd := by
      intro dd
      induction dd with
      | zero =>
        intro j fuel hj hf
        obtain ⟨f, rfl⟩ : ∃ f, fuel = f + 1 := ⟨fuel - 1, by omega⟩
        have hj : j = 4 := by omega
        refine ⟨S, M, d, lp_e _ f ?_, lp_e _ f ?_, ⟨p40, p42, p3, s2, s3, ps⟩, plF_r S a b, clF_r M, rfl, rfl⟩
        · unfold bX5_begin
          simp (disch := omega) only [Nat.add_sub_cancel, nI_0, c2I, c3I, c4I, c6I, c8I, c9I, c10I, c15I, c16I, c20I, c30I, c40I, c48I, c60I, c100I, c120I, c159I, c160I, c239I, c240I, c256I, c300I, c318I, c320I, c720I, c840I, c960I, c2520I, c36000I, c1048576I, nI_1, nI_add, pk_mul, nI_pred1, nI_pm1, pk_sub, pk_div, nI_clamp, nI_lz, nI_leI, nI_ltI, nI_eq, nI_z, nI_lez, nI_gez, nI_gtz, nI_m, nI_m2, nI_lem, nI_ltm, nleF, leT, ltT, ltF, eqT, eqF, false_or, or_false, not_false_eq_true, not_true_eq_false, gd_T, st_q, cl_q, cl2_q, cxr_q, cxl_q, i10, if_true, if_false, Bool.false_eq_true]
        · unfold bX10_begin
          simp (disch := omega) only [Nat.add_sub_cancel, nI_0, c2I, c3I, c4I, c6I, c8I, c9I, c10I, c15I, c16I, c20I, c30I, c40I, c48I, c60I, c100I, c120I, c159I, c160I, c239I, c240I, c256I, c300I, c318I, c320I, c720I, c840I, c960I, c2520I, c36000I, c1048576I, nI_1, nI_add, pk_mul, nI_pred1, nI_pm1, pk_sub, pk_div, nI_clamp, nI_lz, nI_leI, nI_ltI, nI_eq, nI_z, nI_lez, nI_gez, nI_gtz, nI_m, nI_m2, nI_lem, nI_ltm, nleF, leT, ltT, ltF, eqT, eqF, false_or, or_false, not_false_eq_true, not_true_eq_false, gd_T, st_q, cl_q, cl2_q, cxr_q, cxl_q, i10, if_true, if_false, Bool.false_eq_true]
      | succ dd ih =>
        intro j fuel hj hf
        obtain ⟨f, rfl⟩ : ∃ f, fuel = f + 1 := ⟨fuel - 1, by omega⟩
        have hj4 : j < 4 := by omega
        have go : ¬ bgC M g k (plM M) j → bX5_begin S a b 1 g (nI k) (nI j) = some (.inl (nI (j + 1))) → bX10_begin (nI k) M (nI j) = some (.inl (nI (j + 1))) → ∃ S1 M1 d1, lp (bX5_begin S a b 1 g (nI k)) (f + 1) (nI j) = some S1 ∧ lp (bX10_begin (nI k) M) (f + 1) (nI j) = some M1 ∧ PT S1 a b M1 g d1 ∧ plF S S1 a b ∧ clF M M1 ∧ M1 41 = M 41 ∧ plM M1 = bgJ M g k (plM M) j (dd + 1) := by
          intro e0 e1 e2
          rw [lp_s _ f e1, lp_s _ f e2]
          have eJ : bgJ M g k (plM M) j (dd + 1) = bgJ M g k (plM M) (j + 1) dd := if_neg (fun q => e0 ((bgB_i M g k _ j).mp q))
          rw [eJ]
          exact ih (j + 1) f (by omega) (by omega)
        have hany : anyB (fun i => decide ((plM M).2.2.1 i = nI j)) (plM M).2.1 = anyB (fun i => decide (zI S (14, a, b) i = nI j)) d := by
          rw [← hon, hpl]
          exact anyB_c (fun i hi => by show decide (nrm d (M 43) i = nI j) = _; rw [nrm_a hi])
        rcases hR.2 j hj4 with ⟨q0, m29⟩ | ⟨n, B, E, L, T, P, q0, hB, hE, hL, hT, hP, z0, m29, -⟩
        · refine go (fun q => absurd (m29.symm.trans q.1) (fun e => of_eq_false (nI_m (show k < 2 ^ 31 by omega)) e.symm)) ?_ ?_
          · unfold bX5_begin
            simp (disch := omega) only [Nat.add_sub_cancel, nI_0, c2I, c3I, c4I, c6I, c8I, c9I, c10I, c15I, c16I, c20I, c30I, c40I, c48I, c60I, c100I, c120I, c159I, c160I, c239I, c240I, c256I, c300I, c318I, c320I, c720I, c840I, c960I, c2520I, c36000I, c1048576I, nI_1, nI_add, pk_mul, nI_pred1, nI_pm1, pk_sub, pk_div, nI_clamp, nI_lz, nI_leI, nI_ltI, nI_eq, nI_z, nI_lez, nI_gez, nI_gtz, nI_m, nI_m2, nI_lem, nI_ltm, nleF, leT, ltT, ltF, eqT, eqF, false_or, or_false, not_false_eq_true, not_true_eq_false, gd_T, st_q, cl_q, cl2_q, cxr_q, cxl_q, i10, if_true, if_false, Bool.false_eq_true, modeOf_eq, q0, om_n]
          · unfold bX10_begin
            simp (disch := omega) only [Nat.add_sub_cancel, nI_0, c2I, c3I, c4I, c6I, c8I, c9I, c10I, c15I, c16I, c20I, c30I, c40I, c48I, c60I, c100I, c120I, c159I, c160I, c239I, c240I, c256I, c300I, c318I, c320I, c720I, c840I, c960I, c2520I, c36000I, c1048576I, nI_1, nI_add, pk_mul, nI_pred1, nI_pm1, pk_sub, pk_div, nI_clamp, nI_lz, nI_leI, nI_ltI, nI_eq, nI_z, nI_lez, nI_gez, nI_gtz, nI_m, nI_m2, nI_lem, nI_ltm, nleF, leT, ltT, ltF, eqT, eqF, false_or, or_false, not_false_eq_true, not_true_eq_false, gd_T, st_q, cl_q, cl2_q, cxr_q, cxl_q, i10, if_true, if_false, Bool.false_eq_true, p42, p40, m29]
        · by_cases hBk : B = k
          · by_cases hst : anyB (fun i => decide (zI S (14, a, b) i = nI j)) d = true
            · refine go (fun q => by rw [← hany, q.2] at hst; exact absurd hst (by decide)) ?_ ?_
              · unfold bX5_begin
                simp (disch := omega) only [Nat.add_sub_cancel, nI_0, c2I, c3I, c4I, c6I, c8I, c9I, c10I, c15I, c16I, c20I, c30I, c40I, c48I, c60I, c100I, c120I, c159I, c160I, c239I, c240I, c256I, c300I, c318I, c320I, c720I, c840I, c960I, c2520I, c36000I, c1048576I, nI_1, nI_add, pk_mul, nI_pred1, nI_pm1, pk_sub, pk_div, nI_clamp, nI_lz, nI_leI, nI_ltI, nI_eq, nI_z, nI_lez, nI_gez, nI_gtz, nI_m, nI_m2, nI_lem, nI_ltm, nleF, leT, ltT, ltF, eqT, eqF, false_or, or_false, not_false_eq_true, not_true_eq_false, gd_T, st_q, cl_q, cl2_q, cxr_q, cxl_q, i10, if_true, if_false, Bool.false_eq_true, modeOf_eq, q0, om_s, z0, isSt_eq s2 p3, hst]
              · unfold bX10_begin
                simp (disch := omega) only [Nat.add_sub_cancel, nI_0, c2I, c3I, c4I, c6I, c8I, c9I, c10I, c15I, c16I, c20I, c30I, c40I, c48I, c60I, c100I, c120I, c159I, c160I, c239I, c240I, c256I, c300I, c318I, c320I, c720I, c840I, c960I, c2520I, c36000I, c1048576I, nI_1, nI_add, pk_mul, nI_pred1, nI_pm1, pk_sub, pk_div, nI_clamp, nI_lz, nI_leI, nI_ltI, nI_eq, nI_z, nI_lez, nI_gez, nI_gtz, nI_m, nI_m2, nI_lem, nI_ltm, nleF, leT, ltT, ltF, eqT, eqF, false_or, or_false, not_false_eq_true, not_true_eq_false, gd_T, st_q, cl_q, cl2_q, cxr_q, cxl_q, i10, if_true, if_false, Bool.false_eq_true, p42, p40, m29, isOn_eq p42 p3, hon, hst]
            · have hstf : anyB (fun i => decide (zI S (14, a, b) i = nI j)) d = false := Bool.eq_false_iff.mpr hst
              refine ⟨pI (pI (pI S (14, a, b) d (nI j)) (15, a, b) d 0) (6, a, b) 2 (nI (d + 1)), pM (pM (pM M 43 d (nI j)) 44 d 0) 42 0 (nI (d + 1)), d + 1, lp_e _ f ?_, lp_e _ f ?_, ⟨?_, ?_, by omega, ?_, ?_, fun i hi => ?_⟩, plF_t (plF_t (plF_p (by omega) _ _) (plF_p (by omega) _ _)) (plF_p (by omega) _ _), clF_t (clF_t (clF_p (by omega) _ _) (clF_p (by omega) _ _)) (clF_p (by omega) _ _), ?_, ?_⟩
              · unfold bX5_begin
                simp (disch := omega) only [Nat.add_sub_cancel, nI_0, c2I, c3I, c4I, c6I, c8I, c9I, c10I, c15I, c16I, c20I, c30I, c40I, c48I, c60I, c100I, c120I, c159I, c160I, c239I, c240I, c256I, c300I, c318I, c320I, c720I, c840I, c960I, c2520I, c36000I, c1048576I, nI_1, nI_add, pk_mul, nI_pred1, nI_pm1, pk_sub, pk_div, nI_clamp, nI_lz, nI_leI, nI_ltI, nI_eq, nI_z, nI_lez, nI_gez, nI_gtz, nI_m, nI_m2, nI_lem, nI_ltm, nleF, leT, ltT, ltF, eqT, eqF, false_or, or_false, not_false_eq_true, not_true_eq_false, gd_T, st_q, cl_q, cl2_q, cxr_q, cxl_q, i10, if_true, if_false, Bool.false_eq_true, modeOf_eq, q0, om_s, z0, isSt_eq s2 p3, hstf, s2, zI_at, Prod.mk.injEq, false_and]
                try simp (disch := omega) only [Nat.add_sub_cancel, nI_0, c2I, c3I, c4I, c6I, c8I, c9I, c10I, c15I, c16I, c20I, c30I, c40I, c48I, c60I, c100I, c120I, c159I, c160I, c239I, c240I, c256I, c300I, c318I, c320I, c720I, c840I, c960I, c2520I, c36000I, c1048576I, nI_1, nI_add, pk_mul, nI_pred1, nI_pm1, pk_sub, pk_div, nI_clamp, nI_lz, nI_leI, nI_ltI, nI_eq, nI_z, nI_lez, nI_gez, nI_gtz, nI_m, nI_m2, nI_lem, nI_ltm, nleF, leT, ltT, ltF, eqT, eqF, false_or, or_false, not_false_eq_true, not_true_eq_false, gd_T, st_q, cl_q, cl2_q, cxr_q, cxl_q, i10, if_true, if_false, Bool.false_eq_true, s2]
              · unfold bX10_begin
                simp (disch := omega) only [Nat.add_sub_cancel, nI_0, c2I, c3I, c4I, c6I, c8I, c9I, c10I, c15I, c16I, c20I, c30I, c40I, c48I, c60I, c100I, c120I, c159I, c160I, c239I, c240I, c256I, c300I, c318I, c320I, c720I, c840I, c960I, c2520I, c36000I, c1048576I, nI_1, nI_add, pk_mul, nI_pred1, nI_pm1, pk_sub, pk_div, nI_clamp, nI_lz, nI_leI, nI_ltI, nI_eq, nI_z, nI_lez, nI_gez, nI_gtz, nI_m, nI_m2, nI_lem, nI_ltm, nleF, leT, ltT, ltF, eqT, eqF, false_or, or_false, not_false_eq_true, not_true_eq_false, gd_T, st_q, cl_q, cl2_q, cxr_q, cxl_q, i10, if_true, if_false, Bool.false_eq_true, p42, p40, m29, isOn_eq p42 p3, hon, hstf, pM_s, pMn]
                try simp (disch := omega) only [Nat.add_sub_cancel, nI_0, c2I, c3I, c4I, c6I, c8I, c9I, c10I, c15I, c16I, c20I, c30I, c40I, c48I, c60I, c100I, c120I, c159I, c160I, c239I, c240I, c256I, c300I, c318I, c320I, c720I, c840I, c960I, c2520I, c36000I, c1048576I, nI_1, nI_add, pk_mul, nI_pred1, nI_pm1, pk_sub, pk_div, nI_clamp, nI_lz, nI_leI, nI_ltI, nI_eq, nI_z, nI_lez, nI_gez, nI_gtz, nI_m, nI_m2, nI_lem, nI_ltm, nleF, leT, ltT, ltF, eqT, eqF, false_or, or_false, not_false_eq_true, not_true_eq_false, gd_T, st_q, cl_q, cl2_q, cxr_q, cxl_q, i10, if_true, if_false, Bool.false_eq_true, p42, pM_s, pMn]
              · simp (disch := omega) only [pM_s, pMn, p40]
              · simp (disch := omega) only [pM_s, pMn]
              · rw [zI_at, if_pos ⟨rfl, rfl⟩]
              · simp (disch := omega) only [zI_at, Prod.mk.injEq, eqT, eqF, true_and, and_true, false_and, and_false, if_true, if_false, s3, pMn]
              · by_cases e : i = d
                · subst e
                  refine ⟨j, hj4, ?_, ?_, ?_, ?_⟩
                  · simp (disch := omega) only [pM_s, pMn]
                  · simp (disch := omega) only [zI_at, Prod.mk.injEq, eqT, eqF, true_and, and_true, false_and, and_false, if_true, if_false]
                  · simp (disch := omega) only [pMn]
                    rw [m29]
                    exact of_eq_false (nI_m (by omega))
                  · simp (disch := omega) only [zI_at, Prod.mk.injEq, eqT, eqF, true_and, and_true, false_and, and_false, if_true, if_false, pM_s, pMn]
                · obtain ⟨j1, h1, h2, h3, h4, h5⟩ := ps i (by omega)
                  refine ⟨j1, h1, ?_, ?_, ?_, ?_⟩
                  · simp (disch := omega) only [pMi, pMn, h2]
                  · simp (disch := omega) only [zI_at, Prod.mk.injEq, eqT, eqF, true_and, and_true, false_and, and_false, if_true, if_false, h3]
                  · simp (disch := omega) only [pMn]
                    exact h4
                  · simp (disch := omega) only [zI_at, Prod.mk.injEq, eqT, eqF, true_and, and_true, false_and, and_false, if_true, if_false, pMi, pMn, h5]
              · simp (disch := omega) only [pMn]
              · have hc : bgC M g k (plM M) j := ⟨by rw [m29, hBk], by rw [hany]; exact hstf⟩
                have e42 : pM (pM (pM M 43 d (nI j)) 44 d 0) 42 0 (nI (d + 1)) 42 0 = nI (d + 1) := pM_s _ _ _
                rw [plM_e e42 (by omega)]
                refine Eq.trans ?_ (if_pos ((bgB_i M g k _ j).mpr hc)).symm
                rw [hpl]
                simp (disch := omega) only [pMn, pM_up]
                rw [nrm_up, nrm_up]
          · refine go (fun q => hBk ((nI_eq (by omega) (by omega)).mp (m29.symm.trans q.1))) ?_ ?_
            · unfold bX5_begin
              simp (disch := omega) only [Nat.add_sub_cancel, nI_0, c2I, c3I, c4I, c6I, c8I, c9I, c10I, c15I, c16I, c20I, c30I, c40I, c48I, c60I, c100I, c120I, c159I, c160I, c239I, c240I, c256I, c300I, c318I, c320I, c720I, c840I, c960I, c2520I, c36000I, c1048576I, nI_1, nI_add, pk_mul, nI_pred1, nI_pm1, pk_sub, pk_div, nI_clamp, nI_lz, nI_leI, nI_ltI, nI_eq, nI_z, nI_lez, nI_gez, nI_gtz, nI_m, nI_m2, nI_lem, nI_ltm, nleF, leT, ltT, ltF, eqT, eqF, false_or, or_false, not_false_eq_true, not_true_eq_false, gd_T, st_q, cl_q, cl2_q, cxr_q, cxl_q, i10, if_true, if_false, Bool.false_eq_true, modeOf_eq, q0, om_s, z0, nI_eq]
            · unfold bX10_begin
              simp (disch := omega) only [Nat.add_sub_cancel, nI_0, c2I, c3I, c4I, c6I, c8I, c9I, c10I, c15I, c16I, c20I, c30I, c40I, c48I, c60I, c100I, c120I, c159I, c160I, c239I, c240I, c256I, c300I, c318I, c320I, c720I, c840I, c960I, c2520I, c36000I, c1048576I, nI_1, nI_add, pk_mul, nI_pred1, nI_pm1, pk_sub, pk_div, nI_clamp, nI_lz, nI_leI, nI_ltI, nI_eq, nI_z, nI_lez, nI_gez, nI_gtz, nI_m, nI_m2, nI_lem, nI_ltm, nleF, leT, ltT, ltF, eqT, eqF, false_or, or_false, not_false_eq_true, not_true_eq_false, gd_T, st_q, cl_q, cl2_q, cxr_q, cxl_q, i10, if_true, if_false, Bool.false_eq_true, p42, p40, m29, nI_eq]
    obtain ⟨S1, M1, d1, e1, e2, r⟩ := main 4 0 40000 (by omega) (by omega)
    rw [nI_0] at e1 e2
    have eB : bgn M g k (plM M) = bgJ M g k (plM M) 0 4 := by
      unfold bgn
      rw [hpl]
      exact if_pos (show d < 3 by omega)
    rw [eB]
    refine ⟨S1, M1, d1, ?_, e2, r⟩
    unfold fX5_beginMode
    rw [if_neg (c := zI S (6, a, b) 2 < 0) (by rw [s2]; exact nI_pos (by omega)), if_neg (c := (3 : Int32) ≤ zI S (6, a, b) 2) (by rw [s2, c3I]; exact nI_ge (by omega) (by omega)), if_pos (c := zI S (6, a, b) 2 < (3 : Int32)) (by rw [s2, c3I]; exact nI_lt (by omega) (by omega)), st_s]
    exact e1
theorem PT_sc (hp : PT S a b M g d) (x : Int32) : PT (pI S (6, a, b) 3 x) a b (pM M 41 0 x) g d := by
  obtain ⟨p40, p42, p3, s2, s3, ps⟩ := hp
  refine ⟨?_, ?_, p3, ?_, ?_, fun i hi => ?_⟩
  · simp (disch := omega) only [pMn, p40]
  · simp (disch := omega) only [pMn, p42]
  · simp (disch := omega) only [zI_at, Prod.mk.injEq, eqT, eqF, true_and, and_true, false_and, and_false, if_true, if_false, s2]
  · rw [zI_at, if_pos ⟨rfl, rfl⟩, pM_s]
  · obtain ⟨j1, h1, h2, h3, h4, h5⟩ := ps i hi
    refine ⟨j1, h1, ?_, ?_, ?_, ?_⟩
    · simp (disch := omega) only [pMn, h2]
    · simp (disch := omega) only [zI_at, Prod.mk.injEq, eqT, eqF, true_and, and_true, false_and, and_false, if_true, if_false, h3]
    · simp (disch := omega) only [pMn]
      exact h4
    · simp (disch := omega) only [zI_at, Prod.mk.injEq, eqT, eqF, true_and, and_true, false_and, and_false, if_true, if_false, pMn, h5]
theorem PT_hit (hp : PT S a b M g d) (i0 : Nat) (x : Int32) : PT (pI S (15, a, b) i0 x) a b (pM M 44 i0 x) g d := by
  obtain ⟨p40, p42, p3, s2, s3, ps⟩ := hp
  refine ⟨?_, ?_, p3, ?_, ?_, fun i hi => ?_⟩
  · simp (disch := omega) only [pMn, p40]
  · simp (disch := omega) only [pMn, p42]
  · simp (disch := omega) only [zI_at, Prod.mk.injEq, eqT, eqF, true_and, and_true, false_and, and_false, if_true, if_false, s2]
  · simp (disch := omega) only [zI_at, Prod.mk.injEq, eqT, eqF, true_and, and_true, false_and, and_false, if_true, if_false, s3, pMn]
  · obtain ⟨j1, h1, h2, h3, h4, h5⟩ := ps i hi
    refine ⟨j1, h1, ?_, ?_, ?_, ?_⟩
    · simp (disch := omega) only [pMn, h2]
    · simp (disch := omega) only [zI_at, Prod.mk.injEq, eqT, eqF, true_and, and_true, false_and, and_false, if_true, if_false, h3]
    · simp (disch := omega) only [pMn]
      exact h4
    · rw [zI_at, pM_at]
      by_cases e : i = i0
      · rw [if_pos ⟨rfl, e⟩, if_pos ⟨rfl, e⟩]
      · rw [if_neg (fun q => e q.2), if_neg (fun q => e q.2)]; exact h5
theorem PT_pop {d : Nat} (hp : PT S a b M g (d + 1)) : PT (pI S (6, a, b) 2 (nI d)) a b (pM M 42 0 (nI d)) g d := by
  obtain ⟨p40, p42, p3, s2, s3, ps⟩ := hp
  refine ⟨?_, ?_, by omega, ?_, ?_, fun i hi => ?_⟩
  · simp (disch := omega) only [pMn, p40]
  · simp (disch := omega) only [pM_s]
  · rw [zI_at, if_pos ⟨rfl, rfl⟩]
  · simp (disch := omega) only [zI_at, Prod.mk.injEq, eqT, eqF, true_and, and_true, false_and, and_false, if_true, if_false, s3, pMn]
  · obtain ⟨j1, h1, h2, h3, h4, h5⟩ := ps i (by omega)
    refine ⟨j1, h1, ?_, ?_, ?_, ?_⟩
    · simp (disch := omega) only [pMn, h2]
    · simp (disch := omega) only [zI_at, Prod.mk.injEq, eqT, eqF, true_and, and_true, false_and, and_false, if_true, if_false, h3]
    · simp (disch := omega) only [pMn]
      exact h4
    · simp (disch := omega) only [zI_at, Prod.mk.injEq, eqT, eqF, true_and, and_true, false_and, and_false, if_true, if_false, pMn, h5]
theorem nI_mc (a b : Nat) : nI a * nI b = nI (b * a) := by rw [pk_mul, Nat.mul_comm]
end PC
