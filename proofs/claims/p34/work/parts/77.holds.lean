/-! WHAT THE LAW CALLS HOLDS: it answers 1 -/
def bHo0 (M : zMs) (I : Nat → Int32) (i_3 : Int32) : (Int32 × Int32) → Option ((Int32 × Int32) ⊕ Int32) := fun (q4 : (Int32 × Int32)) =>
st (fun (u_ : Unit) => (st (0 : Int32) fun x13 =>
lp (fun (q14 : (Int32 × Int32)) => (if (M 1 0) ≤ q14.2 then
gd (q14.1 = 0 ∨ q14.1 = 1) (some (.inr (.inr (q14.1))))
else
if q14.1 = 0 then
gd (q14.1 = 0 ∨ q14.1 = 1) (some (.inr (.inr (q14.1))))
else
st (2147483647 : Int32) fun x22 =>
st (0 : Int32) fun x23 =>
lp (fun (q24 : (Int32 × Int32 × Int32)) => (st (fun (u_ : Unit) => (st (q14.2 + (1 : Int32)) fun x33 =>
some (.inr (.inl (q24.1, x33))) : Option ((Int32 × Int32 × Int32) ⊕ ((Int32 × Int32) ⊕ ((Int32 × Int32) ⊕ Int32))))) fun j32 =>
if q24.1 = 0 then
j32 ()
else
if (A_high M q14.2 q24.2.2) < 0 then
j32 ()
else
st (A_high M q14.2 q24.2.2) fun x34 =>
st (fun (y35 : Int32) => (st y35 fun x37 =>
st (A_valid M x34) fun x38 =>
st (q24.2.2 + (1 : Int32)) fun x39 =>
some (.inl (x37, x38, x39)) : Option ((Int32 × Int32 × Int32) ⊕ ((Int32 × Int32) ⊕ ((Int32 × Int32) ⊕ Int32))))) fun j36 =>
st (fun (u_ : Unit) => (j36 (0 : Int32) : Option ((Int32 × Int32 × Int32) ⊕ ((Int32 × Int32) ⊕ ((Int32 × Int32) ⊕ Int32))))) fun j40 =>
if (A_balls M x34) = 0 then
if q24.2.1 < (A_valid M x34) then
j40 ()
else
j36 (1 : Int32)
else
j40 () : Option ((Int32 × Int32 × Int32) ⊕ ((Int32 × Int32) ⊕ ((Int32 × Int32) ⊕ Int32))))) 42 (q14.1, x22, x23) : Option ((Int32 × Int32) ⊕ ((Int32 × Int32) ⊕ Int32)))) 7 (q4.1, x13) : Option ((Int32 × Int32) ⊕ Int32))) fun j12 =>
if (M 24 0) ≤ q4.2 then
j12 ()
else
if q4.1 = 0 then
j12 ()
else
st (A_logged M q4.2) fun x41 =>
st (A_balls M q4.2) fun x42 =>
st (A_twin M q4.2) fun x43 =>
st (fun (y44 : Int32) => (st y44 fun x46 =>
st (-1 : Int64) fun x47 =>
st (i_3 - i_3 / (7 : Int32) * (7 : Int32)) fun x48 =>
lp (fun (q49 : (Int32 × Int64 × Int32)) => (st (fun (u_ : Unit) => (st (q4.2 + (1 : Int32)) fun x58 =>
some (.inr (.inl (q49.1, x58))) : Option ((Int32 × Int64 × Int32) ⊕ ((Int32 × Int32) ⊕ Int32)))) fun j57 =>
if x41 ≤ q49.2.2 then
j57 ()
else
if q49.1 = 0 then
j57 ()
else
st (A_entry M q4.2 q49.2.2) fun x59 =>
st ((((x59 / (16 : Int64)) - (x59 / (16 : Int64)) / (16 : Int64) * (16 : Int64)) * (4096 : Int64)) + ((x59 / (256 : Int64)) - (x59 / (256 : Int64)) / (4096 : Int64) * (4096 : Int64))) fun x60 =>
st (fun (y61 : Int32) => (st y61 fun x63 =>
st x60 fun x64 =>
st (q49.2.2 + (7 : Int32)) fun x65 =>
some (.inl (x63, x64, x65)) : Option ((Int32 × Int64 × Int32) ⊕ ((Int32 × Int32) ⊕ Int32)))) fun j62 =>
st (fun (u_ : Unit) => (j62 (0 : Int32) : Option ((Int32 × Int64 × Int32) ⊕ ((Int32 × Int32) ⊕ Int32)))) fun j66 =>
if (lg_cmp x60 q49.2.1) < 0 then
j66 ()
else
if 0 ≤ (lg_cmp (x59 - x59 / (16 : Int64) * (16 : Int64)) (8 : Int64)) then
j66 ()
else
if 0 ≤ (lg_cmp ((x59 / (16 : Int64)) - (x59 / (16 : Int64)) / (16 : Int64) * (16 : Int64)) ((3 : Int64) - x42.toInt64)) then
j66 ()
else
if (lg_cmp ((x59 / (256 : Int64)) - (x59 / (256 : Int64)) / (4096 : Int64) * (4096 : Int64)) (0 : Int64)) ≤ 0 then
j66 ()
else
if 0 < (lg_cmp ((x59 / (256 : Int64)) - (x59 / (256 : Int64)) / (4096 : Int64) * (4096 : Int64)) (300 : Int64)) then
j66 ()
else
gd (¬ ((6 : Int32) < 0 ∨ 14 ≤ (6 : Int32).toNatClampNeg)) (
if 0 < (lg_cmp (x59 / (1048576 : Int64)) ((I (6 : Int32).toNatClampNeg).toInt64)) then
j66 ()
else
j62 (1 : Int32)) : Option ((Int32 × Int64 × Int32) ⊕ ((Int32 × Int32) ⊕ Int32)))) 362 (x46, x47, x48) : Option ((Int32 × Int32) ⊕ Int32))) fun j45 =>
st (fun (u_ : Unit) => (j45 (0 : Int32) : Option ((Int32 × Int32) ⊕ Int32))) fun j67 =>
if (A_byLog M q4.2) = (A_score M q4.2) then
if x42 < 0 then
j67 ()
else
if (3 : Int32) < x42 then
j67 ()
else
if x41 < 0 then
j67 ()
else
if (2520 : Int32) < x41 then
j67 ()
else
if (A_score M q4.2) < 0 then
j67 ()
else
st (fun (u_ : Unit) => (if (500 : Int32) ≤ (A_stack M q4.2) then
j67 ()
else
st (fun (u_ : Unit) => (if (lg_cmp (A_entry M q4.2 x41) (-2000000001 : Int64)) = 0 then
j45 (1 : Int32)
else
j67 () : Option ((Int32 × Int32) ⊕ Int32))) fun j69 =>
if x43 = (-1 : Int32) then
j69 ()
else
if x42 = 0 then
if x43 = q4.2 then
j67 ()
else
if x41 ≤ 0 then
j67 ()
else
if (A_logged M x43) = x41 then
if (lg_cmp (A_entry M x43 (x41 - (1 : Int32))) (A_entry M q4.2 (x41 - (1 : Int32)))) = 0 then
if (A_balls M x43) = 0 then
j69 ()
else
j67 ()
else
j67 ()
else
j67 ()
else
j67 () : Option ((Int32 × Int32) ⊕ Int32))) fun j68 =>
if x42 < (3 : Int32) then
j68 ()
else
if x41 = 0 then
if (A_score M q4.2) = 0 then
j68 ()
else
j67 ()
else
j67 ()
else
j67 ()
def bHo1 (M : zMs) : (Int32 × Int32) → Option ((Int32 × Int32) ⊕ ((Int32 × Int32) ⊕ Int32)) := fun (q14 : (Int32 × Int32)) =>
if (M 1 0) ≤ q14.2 then
gd (q14.1 = 0 ∨ q14.1 = 1) (some (.inr (.inr (q14.1))))
else
if q14.1 = 0 then
gd (q14.1 = 0 ∨ q14.1 = 1) (some (.inr (.inr (q14.1))))
else
st (2147483647 : Int32) fun x22 =>
st (0 : Int32) fun x23 =>
lp (fun (q24 : (Int32 × Int32 × Int32)) => (st (fun (u_ : Unit) => (st (q14.2 + (1 : Int32)) fun x33 =>
some (.inr (.inl (q24.1, x33))) : Option ((Int32 × Int32 × Int32) ⊕ ((Int32 × Int32) ⊕ ((Int32 × Int32) ⊕ Int32))))) fun j32 =>
if q24.1 = 0 then
j32 ()
else
if (A_high M q14.2 q24.2.2) < 0 then
j32 ()
else
st (A_high M q14.2 q24.2.2) fun x34 =>
st (fun (y35 : Int32) => (st y35 fun x37 =>
st (A_valid M x34) fun x38 =>
st (q24.2.2 + (1 : Int32)) fun x39 =>
some (.inl (x37, x38, x39)) : Option ((Int32 × Int32 × Int32) ⊕ ((Int32 × Int32) ⊕ ((Int32 × Int32) ⊕ Int32))))) fun j36 =>
st (fun (u_ : Unit) => (j36 (0 : Int32) : Option ((Int32 × Int32 × Int32) ⊕ ((Int32 × Int32) ⊕ ((Int32 × Int32) ⊕ Int32))))) fun j40 =>
if (A_balls M x34) = 0 then
if q24.2.1 < (A_valid M x34) then
j40 ()
else
j36 (1 : Int32)
else
j40 () : Option ((Int32 × Int32 × Int32) ⊕ ((Int32 × Int32) ⊕ ((Int32 × Int32) ⊕ Int32))))) 42 (q14.1, x22, x23)
def bHo2 (M : zMs) (q14 : Int32 × Int32) : (Int32 × Int32 × Int32) → Option ((Int32 × Int32 × Int32) ⊕ ((Int32 × Int32) ⊕ ((Int32 × Int32) ⊕ Int32))) := fun (q24 : (Int32 × Int32 × Int32)) =>
st (fun (u_ : Unit) => (st (q14.2 + (1 : Int32)) fun x33 =>
some (.inr (.inl (q24.1, x33))) : Option ((Int32 × Int32 × Int32) ⊕ ((Int32 × Int32) ⊕ ((Int32 × Int32) ⊕ Int32))))) fun j32 =>
if q24.1 = 0 then
j32 ()
else
if (A_high M q14.2 q24.2.2) < 0 then
j32 ()
else
st (A_high M q14.2 q24.2.2) fun x34 =>
st (fun (y35 : Int32) => (st y35 fun x37 =>
st (A_valid M x34) fun x38 =>
st (q24.2.2 + (1 : Int32)) fun x39 =>
some (.inl (x37, x38, x39)) : Option ((Int32 × Int32 × Int32) ⊕ ((Int32 × Int32) ⊕ ((Int32 × Int32) ⊕ Int32))))) fun j36 =>
st (fun (u_ : Unit) => (j36 (0 : Int32) : Option ((Int32 × Int32 × Int32) ⊕ ((Int32 × Int32) ⊕ ((Int32 × Int32) ⊕ Int32))))) fun j40 =>
if (A_balls M x34) = 0 then
if q24.2.1 < (A_valid M x34) then
j40 ()
else
j36 (1 : Int32)
else
j40 ()
def bHo3 (M : zMs) (I : Nat → Int32) (q4 : Int32 × Int32) (x41 : Int32) (x42 : Int32) : (Int32 × Int64 × Int32) → Option ((Int32 × Int64 × Int32) ⊕ ((Int32 × Int32) ⊕ Int32)) := fun (q49 : (Int32 × Int64 × Int32)) =>
st (fun (u_ : Unit) => (st (q4.2 + (1 : Int32)) fun x58 =>
some (.inr (.inl (q49.1, x58))) : Option ((Int32 × Int64 × Int32) ⊕ ((Int32 × Int32) ⊕ Int32)))) fun j57 =>
if x41 ≤ q49.2.2 then
j57 ()
else
if q49.1 = 0 then
j57 ()
else
st (A_entry M q4.2 q49.2.2) fun x59 =>
st ((((x59 / (16 : Int64)) - (x59 / (16 : Int64)) / (16 : Int64) * (16 : Int64)) * (4096 : Int64)) + ((x59 / (256 : Int64)) - (x59 / (256 : Int64)) / (4096 : Int64) * (4096 : Int64))) fun x60 =>
st (fun (y61 : Int32) => (st y61 fun x63 =>
st x60 fun x64 =>
st (q49.2.2 + (7 : Int32)) fun x65 =>
some (.inl (x63, x64, x65)) : Option ((Int32 × Int64 × Int32) ⊕ ((Int32 × Int32) ⊕ Int32)))) fun j62 =>
st (fun (u_ : Unit) => (j62 (0 : Int32) : Option ((Int32 × Int64 × Int32) ⊕ ((Int32 × Int32) ⊕ Int32)))) fun j66 =>
if (lg_cmp x60 q49.2.1) < 0 then
j66 ()
else
if 0 ≤ (lg_cmp (x59 - x59 / (16 : Int64) * (16 : Int64)) (8 : Int64)) then
j66 ()
else
if 0 ≤ (lg_cmp ((x59 / (16 : Int64)) - (x59 / (16 : Int64)) / (16 : Int64) * (16 : Int64)) ((3 : Int64) - x42.toInt64)) then
j66 ()
else
if (lg_cmp ((x59 / (256 : Int64)) - (x59 / (256 : Int64)) / (4096 : Int64) * (4096 : Int64)) (0 : Int64)) ≤ 0 then
j66 ()
else
if 0 < (lg_cmp ((x59 / (256 : Int64)) - (x59 / (256 : Int64)) / (4096 : Int64) * (4096 : Int64)) (300 : Int64)) then
j66 ()
else
gd (¬ ((6 : Int32) < 0 ∨ 14 ≤ (6 : Int32).toNatClampNeg)) (
if 0 < (lg_cmp (x59 / (1048576 : Int64)) ((I (6 : Int32).toNatClampNeg).toInt64)) then
j66 ()
else
j62 (1 : Int32))
theorem lgL {a b : Nat} (ha : a < 2 ^ 62) (hb : b < 2 ^ 62) : (lg_cmp (lN a) (lN b) < 0 ↔ a < b) ∧ (0 ≤ lg_cmp (lN a) (lN b) ↔ b ≤ a) ∧ (lg_cmp (lN a) (lN b) ≤ 0 ↔ a ≤ b) ∧ (0 < lg_cmp (lN a) (lN b) ↔ b < a) := by
  unfold lg_cmp
  by_cases h : b < a
  · rw [if_pos (show lN a > lN b from (pk_lLT (by omega) (by omega)).mpr h)]
    exact ⟨⟨fun q => absurd q (by decide), fun q => by omega⟩, ⟨fun _ => by omega, fun _ => by decide⟩, ⟨fun q => absurd q (by decide), fun q => by omega⟩, ⟨fun _ => h, fun _ => by decide⟩⟩
  · rw [if_neg (show ¬ lN a > lN b from fun q => h ((pk_lLT (by omega) (by omega)).mp q))]
    by_cases e : a = b
    · rw [if_pos (show lN a = lN b by rw [e])]
      exact ⟨⟨fun q => absurd q (by decide), fun q => by omega⟩, ⟨fun _ => by omega, fun _ => by decide⟩, ⟨fun _ => by omega, fun _ => by decide⟩, ⟨fun q => absurd q (by decide), fun q => by omega⟩⟩
    · rw [if_neg (show ¬ lN a = lN b from fun q => e ((pk_lEQ (by omega) (by omega)).mp q))]
      exact ⟨⟨fun _ => by omega, fun _ => by decide⟩, ⟨fun q => absurd q (by decide), fun q => by omega⟩, ⟨fun _ => by omega, fun _ => by decide⟩, ⟨fun q => absurd q (by decide), fun q => by omega⟩⟩
theorem lgM {a : Nat} (ha : a < 2 ^ 62) : ¬ lg_cmp (lN a) (-1) < 0 := by
  unfold lg_cmp
  have h : lN a > (-1 : Int64) := by
    show (-1 : Int64) < lN a
    rw [Int64.lt_iff_toInt_lt, pk_lT (by omega)]
    have : (-1 : Int64).toInt = -1 := by decide
    omega
  rw [if_pos h]
  decide
/-- when an entry was logged -/
def wh (e : Nat) : Nat := e / 16 % 16 * 4096 + e / 256 % 4096
theorem wh_l {e : Nat} (he : e < 2 ^ 26) : (((lN e / (16 : Int64)) - (lN e / (16 : Int64)) / (16 : Int64) * (16 : Int64)) * (4096 : Int64)) + ((lN e / (256 : Int64)) - (lN e / (256 : Int64)) / (4096 : Int64) * (4096 : Int64)) = lN (wh e) := by
  have e1 : lN e / (16 : Int64) = lN (e / 16) := pk_lDiv (b := 16) (by omega) (by omega) (by omega)
  have e2 : lN e / (256 : Int64) = lN (e / 256) := pk_lDiv (b := 256) (by omega) (by omega) (by omega)
  have e3 : lN (e / 16) - lN (e / 16) / (16 : Int64) * (16 : Int64) = lN (e / 16 % 16) := pk_lRem (b := 16) (by omega) (by omega) (by omega)
  have e4 : lN (e / 256) - lN (e / 256) / (4096 : Int64) * (4096 : Int64) = lN (e / 256 % 4096) := pk_lRem (b := 4096) (by omega) (by omega) (by omega)
  have e5 : lN (e / 16 % 16) * (4096 : Int64) = lN (e / 16 % 16 * 4096) := lN_mul _ 4096
  rw [e1, e2, e3, e4, e5, lN_add]
  rfl
theorem pw_all {R : Nat → Nat → Prop} : ∀ l : List Nat, (∀ x, x ∈ l → ∀ y, y ∈ l → R x y) → l.Pairwise R := by
  intro l
  induction l with
  | nil => intro _; exact List.Pairwise.nil
  | cons a l ih =>
    intro h
    exact List.Pairwise.cons (fun y hy => h a (List.mem_cons_self ..) y (List.mem_cons_of_mem _ hy)) (ih (fun x hx y hy => h x (List.mem_cons_of_mem _ hx) y (List.mem_cons_of_mem _ hy)))
theorem pw_fm {R : Nat → Nat → Prop} {f : Nat → List Nat} : ∀ n, (∀ k, k < n → (f k).Pairwise R) → (∀ j k, j < k → k < n → ∀ x, x ∈ f j → ∀ y, y ∈ f k → R x y) → ((List.range n).flatMap f).Pairwise R := by
  intro n
  induction n with
  | zero => intro _ _; exact List.Pairwise.nil
  | succ n ih =>
    intro h1 h2
    rw [List.range_succ, List.flatMap_append, List.flatMap_singleton, List.pairwise_append]
    refine ⟨ih (fun k hk => h1 k (by omega)) (fun j k hjk hk => h2 j k hjk (by omega)), h1 n (by omega), fun x hx y hy => ?_⟩
    obtain ⟨j, hj, hx⟩ := List.mem_flatMap.mp hx
    exact h2 j n (List.mem_range.mp hj) (by omega) x hx y hy
theorem lst_k (f : Nat → Bool) : ∀ n, lst f n = -1 ∨ ∃ g, g < n ∧ f g = true ∧ lst f n = nI g := by
  intro n
  induction n with
  | zero => exact Or.inl rfl
  | succ n ih =>
    by_cases e : f n = true
    · exact Or.inr ⟨n, by omega, e, if_pos e⟩
    · have e1 : lst f (n + 1) = lst f n := if_neg e
      rw [e1]
      rcases ih with q | ⟨g, hg, q⟩
      · exact Or.inl q
      · exact Or.inr ⟨g, by omega, q⟩
theorem fst_k (f : Nat → Bool) : ∀ n k, fst f k n = -1 ∨ ∃ g, k ≤ g ∧ g < k + n ∧ f g = true ∧ fst f k n = nI g := by
  intro n
  induction n with
  | zero => intro k; exact Or.inl rfl
  | succ n ih =>
    intro k
    by_cases e : f k = true
    · exact Or.inr ⟨k, Nat.le_refl _, by omega, e, if_pos e⟩
    · have e1 : fst f k (n + 1) = fst f (k + 1) n := if_neg e
      rw [e1]
      rcases ih (k + 1) with q | ⟨g, h1, h2, q⟩
      · exact Or.inl q
      · exact Or.inr ⟨g, by omega, by omega, q⟩
section PHO
variable {S : zSt} {M : zMs} {I : Nat → Int32} {t b g n w bi k p e X : Nat}
def enX (M : zMs) (g e : Nat) : Prop := e < 2 ^ 26 ∧ e % 16 < 8 ∧ e / 16 % 16 < 3 - nL M g ∧ 1 ≤ e / 256 % 4096 ∧ e / 256 % 4096 ≤ 300 ∧ e / 1048576 ≤ nS M
theorem pt_s (h : WM M) (hJ : J2 M) (hg : g < nG M) (hb : b < 3 - nL M g) (hn : 1 ≤ n) (hN : n ≤ stp M g b) (hw : w < 10) : pt M (3 * g + b) n w / 16 ≤ nS M := by
  obtain ⟨-, -, -, h4, -⟩ := stp_ok h hg hb
  obtain ⟨x, y, hx, hy, e⟩ := h4 (n - 1) (by omega)
  have hS := nS60 h
  have i38 : 300 * (3 * g + b) + n - 1 = 300 * (3 * g + b) + (n - 1) := by omega
  unfold pt
  rw [i38, e, nI_clamp (by omega)]
  by_cases w0 : w = 0
  · rw [if_pos w0]; omega
  · rw [if_neg w0]
    by_cases w1 : w = 1
    · rw [if_pos w1]; omega
    · rw [if_neg w1]
      obtain ⟨m, -, hm, e9⟩ := hJ g b (w - 2) hg hb (by omega)
      rw [show 8 * (3 * g + b) + w - 2 = 8 * (3 * g + b) + (w - 2) by omega, e9, nI_clamp (by omega)]
      by_cases hc : n % 10 = 0 ∧ m ≠ 0
      · rw [if_pos hc]; omega
      · rw [if_neg hc]; omega
theorem entS_x (h : WM M) (hJ : J2 M) (hg : g < nG M) (hb : bi < 3 - nL M g) (hn : n < stp M g bi) (he : e ∈ entS M (3 * g + bi) bi (n + 1)) : enX M g e ∧ wh e = bi * 4096 + (n + 1) := by
  unfold entS at he
  obtain ⟨w, hw, he⟩ := List.mem_filterMap.mp he
  have hw := List.mem_range.mp hw
  obtain ⟨-, -, s3, -⟩ := stp_ok h hg hb
  obtain ⟨p1, p2, p3⟩ := pt_ok (n := n + 1) h hg hb (by omega) hn hw
  have p4 := pt_s (n := n + 1) h hJ hg hb (by omega) hn hw
  by_cases v0 : pt M (3 * g + bi) (n + 1) w = 0
  · rw [if_pos v0] at he; cases he
  · rw [if_neg v0] at he
    cases he
    have p3 := p3 v0
    unfold enX wh ptE
    have key : ∀ u s : Nat, u < 8 → s ≤ 60 → (u + 16 * bi + 256 * (n + 1) + 1048576 * s) / 16 = bi + 16 * ((n + 1) + 4096 * s) ∧ (u + 16 * bi + 256 * (n + 1) + 1048576 * s) / 256 = (n + 1) + 4096 * s := fun u s hu hs => ⟨by omega, by omega⟩
    obtain ⟨a1, a2⟩ := key (pt M (3 * g + bi) (n + 1) w % 16 - 1) (pt M (3 * g + bi) (n + 1) w / 16) (by omega) p2
    have b1 : ∀ y, (bi + 16 * y) % 16 = bi := fun y => by omega
    have b2 : ∀ s, ((n + 1) + 4096 * s) % 4096 = n + 1 := fun s => by omega
    rw [a1, a2, b1, b2]
    exact ⟨⟨by omega, by omega, by omega, by omega, by omega, by omega⟩, rfl⟩
theorem entB_x (h : WM M) (hJ : J2 M) (hg : g < nG M) (hb : bi < 3 - nL M g) (he : e ∈ entB M (3 * g + bi) bi) : ∃ n, n < stp M g bi ∧ enX M g e ∧ wh e = bi * 4096 + (n + 1) := by
  unfold entB at he
  obtain ⟨n, hn, he⟩ := List.mem_flatMap.mp he
  have hn : n < stp M g bi := List.mem_range.mp hn
  exact ⟨n, hn, entS_x h hJ hg hb hn he⟩
theorem ents_x (h : WM M) (hJ : J2 M) (hg : g < nG M) (he : e ∈ ents M g) : enX M g e := by
  unfold ents at he
  obtain ⟨b, hb, he⟩ := List.mem_flatMap.mp he
  obtain ⟨n, -, q, -⟩ := entB_x h hJ hg (List.mem_range.mp hb) he
  exact q
theorem ents_pw (h : WM M) (hJ : J2 M) (hg : g < nG M) : (ents M g).Pairwise (fun a b => wh a ≤ wh b) := by
  unfold ents
  refine pw_fm _ (fun b hb => ?_) (fun j k hjk hk x hx y hy => ?_)
  · unfold entB
    refine pw_fm _ (fun n hn => pw_all _ (fun x hx y hy => ?_)) (fun i n hin hn x hx y hy => ?_)
    · rw [(entS_x h hJ hg hb hn hx).2, (entS_x h hJ hg hb hn hy).2]
      exact Nat.le_refl _
    · have hn : n < stp M g b := hn
      rw [(entS_x h hJ hg hb (show i < stp M g b by omega) hx).2, (entS_x h hJ hg hb hn hy).2]
      omega
  · obtain ⟨n1, h1, -, e1⟩ := entB_x h hJ hg (by omega) hx
    obtain ⟨n2, h2, -, e2⟩ := entB_x h hJ hg hk hy
    obtain ⟨-, -, s3, -⟩ := stp_ok h hg (show j < 3 - nL M g by omega)
    rw [e1, e2]
    omega
theorem ents_so (h : WM M) (hJ : J2 M) (hg : g < nG M) {i j x y : Nat} (hij : i < j) (hx : (ents M g)[i]? = some x) (hy : (ents M g)[j]? = some y) : wh x ≤ wh y := by
  obtain ⟨hi, ex⟩ := List.getElem?_eq_some_iff.mp hx
  obtain ⟨hj, ey⟩ := List.getElem?_eq_some_iff.mp hy
  have := List.pairwise_iff_getElem.mp (ents_pw h hJ hg) i j hi hj hij
  rw [ex, ey] at this
  exact this
theorem ho_ents (h : WM M) (hJ : J2 M) (hI6 : I 6 = nI (nS M)) (hg : g < nG M) (y : Int32) : ∀ (d j fuel : Nat) (last : Int64), (ents M g).length ≤ j + 7 * d → d < fuel → j + 7 * d ≤ 4000 → (∀ e, (ents M g)[j]? = some e → ¬ lg_cmp (lN (wh e)) last < 0) → lp (bHo3 M I (y, nI g) (nI (ents M g).length) (nI (nL M g))) fuel (1, last, nI j) = some (.inl (1, nI (g + 1))) := by
  have hl := ents_2520 h hg
  have hS := nS60 h
  have hL := nL3 h hg
  have hG := nG40 h
  have ex : ∀ (j : Nat) (last : Int64), (ents M g).length ≤ j → j < 2 ^ 31 → bHo3 M I (y, nI g) (nI (ents M g).length) (nI (nL M g)) (1, last, nI j) = some (.inr (.inl (1, nI (g + 1)))) := by
    intro j last hj hj2
    unfold bHo3
    refine st_j ?_
    refine if_t (nI_le hj hj2) ?_
    refine st_v (nI_1 g) ?_
    rfl
  intro d
  induction d with
  | zero =>
    intro j fuel last h1 hf h2 _
    obtain ⟨f, rfl⟩ : ∃ f, fuel = f + 1 := ⟨fuel - 1, by omega⟩
    exact lp_e _ f (ex j last (by omega) (by omega))
  | succ d ih =>
    intro j fuel last h1 hf h2 hl1
    obtain ⟨f, rfl⟩ : ∃ f, fuel = f + 1 := ⟨fuel - 1, by omega⟩
    by_cases hj : (ents M g).length ≤ j
    · exact lp_e _ f (ex j last hj (by omega))
    · obtain ⟨e, he⟩ : ∃ e, (ents M g)[j]? = some e := ⟨_, List.getElem?_eq_getElem (by omega)⟩
      obtain ⟨x1, x2, x3, x4, x5, x6⟩ := ents_x h hJ hg (List.mem_of_getElem? he)
      have ew : wh e < 2 ^ 62 := by unfold wh; omega
      have q1 : lN e - lN e / (16 : Int64) * (16 : Int64) = lN (e % 16) := pk_lRem (b := 16) (by omega) (by omega) (by omega)
      have q2 : lN e / (16 : Int64) = lN (e / 16) := pk_lDiv (b := 16) (by omega) (by omega) (by omega)
      have q3 : lN (e / 16) - lN (e / 16) / (16 : Int64) * (16 : Int64) = lN (e / 16 % 16) := pk_lRem (b := 16) (by omega) (by omega) (by omega)
      have q4 : lN e / (256 : Int64) = lN (e / 256) := pk_lDiv (b := 256) (by omega) (by omega) (by omega)
      have q5 : lN (e / 256) - lN (e / 256) / (4096 : Int64) * (4096 : Int64) = lN (e / 256 % 4096) := pk_lRem (b := 4096) (by omega) (by omega) (by omega)
      have q6 : lN e / (1048576 : Int64) = lN (e / 1048576) := pk_lDiv (b := 1048576) (by omega) (by omega) (by omega)
      have q7 : (3 : Int64) - (nI (nL M g)).toInt64 = lN (3 - nL M g) := by
        rw [nI_l (by omega), show (3 : Int64) = lN 3 from rfl, lN_sub (by omega)]
      have q8 : (I (6 : Int32).toNatClampNeg).toInt64 = lN (nS M) := by
        rw [show (6 : Int32).toNatClampNeg = 6 from rfl, hI6, nI_l (by omega)]
      have eb : bHo3 M I (y, nI g) (nI (ents M g).length) (nI (nL M g)) (1, last, nI j) = some (.inl (1, lN (wh e), nI (j + 7))) := by
        unfold bHo3
        refine st_j ?_
        refine if_f (nI_ge (by omega) (by omega)) ?_
        refine if_f i10 ?_
        refine st_v (vA_entry h hg he) ?_
        refine st_v (wh_l x1) ?_
        refine st_j ?_
        refine st_j ?_
        refine if_f (hl1 e he) ?_
        refine if_f (by rw [q1, show (8 : Int64) = lN 8 from rfl, (lgL (by omega) (by omega)).2.1]; omega) ?_
        refine if_f (by rw [q2, q3, q7, (lgL (by omega) (by omega)).2.1]; omega) ?_
        refine if_f (by rw [q4, q5, show (0 : Int64) = lN 0 from rfl, (lgL (by omega) (by omega)).2.2.1]; omega) ?_
        refine if_f (by rw [q4, q5, show (300 : Int64) = lN 300 from rfl, (lgL (by omega) (by omega)).2.2.2]; omega) ?_
        refine gd_of (by decide) ?_
        refine if_f (by rw [q6, q8, (lgL (by omega) (by omega)).2.2.2]; omega) ?_
        refine st_j ?_
        refine st_j ?_
        refine st_v (show nI j + (7 : Int32) = nI (j + 7) by rw [show (7 : Int32) = nI 7 by decide, nI_add]) ?_
        rfl
      rw [lp_s _ f eb]
      refine ih (j + 7) f _ (by omega) (by omega) (by omega) (fun e' he' => ?_)
      rw [(lgL (by unfold wh; omega) ew).1]
      have := ents_so h hJ hg (show j < j + 7 by omega) he he'
      omega
theorem kept_0 (M : zMs) (l : List Nat) : kept 0 M l = l := List.filter_eq_self.mpr (fun e _ => decide_eq_true (Or.inl rfl))
theorem vA_byLog (h : Tie S M) (hg : g < nG M) : A_byLog M (nI g) = (plS M g (ents M g) pl0).1 ∧ ∃ s, s ≤ 14000 * 2520 ∧ (plS M g (ents M g) pl0).1 = nI s := by
  obtain ⟨s, M1, e1, -, hs, h1, h0, hp⟩ := sp_replay 0 h hg
  rw [kept_0] at hp
  exact ⟨(an_d (x := nI s) ⟨M1, e1, h1, h0⟩).trans hp, s, hs, hp.symm⟩
theorem vA_valid (h : Tie S M) (hg : g < nG M) : A_valid M (nI g) = (plS M g (kept 1 M (ents M g)) pl0).1 := by
  obtain ⟨s, M1, e1, -, hs, h1, h0, hp⟩ := sp_replay 1 h hg
  exact (an_d (x := nI s) ⟨M1, e1, h1, h0⟩).trans hp
theorem j1_s (hJ : J1 M) (hg : g < nG M) : M 27 g = (plS M g (ents M g) pl0).1 := congrArg Prod.fst (hJ g hg)
theorem tld_n (h : WM M) (hg : g < nG M) : ∀ k, k ≤ nD M g → ∃ n, n < 5 * 10 ^ (k - 1) ∧ (k = 0 → n = 0) ∧ tld M g k = nI n := by
  have hD := nD3 h hg
  obtain ⟨-, -, -, g4, -⟩ := gm h hg
  intro k
  induction k with
  | zero => intro _; exact ⟨0, by decide, fun _ => rfl, nI_0.symm⟩
  | succ k ih =>
    intro hk
    obtain ⟨n, h1, h2, e⟩ := ih (by omega)
    obtain ⟨j, hj, e35, -⟩ := g4 k (by omega)
    refine ⟨n * 10 + j + 1, ?_, fun q => by omega, ?_⟩
    · by_cases k0 : k = 0
      · subst k0
        have := h2 rfl
        show n * 10 + j + 1 < 5 * 10 ^ 0
        omega
      · have hk2 : k = 1 ∨ k = 2 := by omega
        rcases hk2 with rfl | rfl
        · show n * 10 + j + 1 < 5 * 10 ^ 1
          have : n < 5 * 10 ^ 0 := h1
          omega
        · show n * 10 + j + 1 < 5 * 10 ^ 2
          have : n < 5 * 10 ^ 1 := h1
          omega
    · show tld M g k * 10 + M 35 (3 * g + k) + 1 = _
      rw [e, e35, show (10 : Int32) = nI 10 by decide, pk_mul, nI_add, nI_1]
theorem ho_stk (h : WM M) (hg : g < nG M) : ¬ (500 : Int32) ≤ tld M g (nD M g) := by
  have hD := nD3 h hg
  obtain ⟨n, h1, h2, e⟩ := tld_n h hg (nD M g) (Nat.le_refl _)
  rw [e, show (500 : Int32) = nI 500 by decide]
  have hn : n < 500 := by
    have hd : nD M g = 0 ∨ nD M g = 1 ∨ nD M g = 2 ∨ nD M g = 3 := by omega
    rcases hd with q | q | q | q
    · have := h2 q; omega
    · rw [q] at h1
      have : n < 5 * 10 ^ 0 := h1
      omega
    · rw [q] at h1
      have : n < 5 * 10 ^ 1 := h1
      omega
    · rw [q] at h1
      have : n < 5 * 10 ^ 2 := h1
      omega
  exact nI_ge hn (by omega)
theorem ho_twin (h : WM M) (hg : g < nG M) : A_twin M (nI g) = -1 ∨ ∃ b, b < nG M ∧ b ≠ g ∧ M 26 b = 0 ∧ ents M g = ents M b ∧ M 26 g = 0 ∧ ents M g ≠ [] ∧ A_twin M (nI g) = nI b := by
  rw [vA_twin h hg]
  by_cases c : M 26 g = 0 ∧ ents M g ≠ []
  · rw [if_pos c]
    rcases fst_k (twB M g) (nG M) 0 with q | ⟨b, -, hb, e, q⟩
    · exact Or.inl q
    · obtain ⟨b1, b2, b3⟩ := of_decide_eq_true e
      exact Or.inr ⟨b, by omega, b1, b2, b3, c.1, c.2, q⟩
  · rw [if_neg c]; exact Or.inl rfl
theorem ho_game (h : Tie S M) (j1 : J1 M) (j2 : J2 M) (hI6 : I 6 = nI (nS M)) (hX : X < 2 ^ 31) (hg : g < nG M) : bHo0 M I (nI X) (1, nI g) = some (.inl (1, nI (g + 1))) := by
  have hW := h.1
  have hG := nG40 hW
  have hL := nL3 hW hg
  have hl := ents_2520 hW hg
  have hll := ents_len hW hg
  obtain ⟨y1, s, hs, y2⟩ := vA_byLog h hg
  have y3 := j1_s j1 hg
  have es : A_score M (nI g) = nI s := by rw [vA_score hW hg, y3, y2]
  have eb : A_byLog M (nI g) = nI s := by rw [y1, y2]
  unfold bHo0
  refine st_j ?_
  refine if_f (by show ¬ M 24 0 ≤ nI g; rw [nG_e hW]; exact nI_ge hg (by omega)) ?_
  refine if_f i10 ?_
  refine st_v (vA_logged hW hg) ?_
  refine st_v ((vA_balls hW hg).trans (nL_e hW hg)) ?_
  refine st_j ?_
  refine st_c (a := (1 : Int32)) (fun j45 h45 => ?_) ?_
  · refine st_j ?_
    refine if_t (eb.trans es.symm) ?_
    refine if_f (nI_pos (by omega)) ?_
    refine if_f (by rw [show (3 : Int32) = nI 3 by decide]; exact fun q => by have := (nI_ltI (by omega) (by omega)).mp q; omega) ?_
    refine if_f (nI_pos (by omega)) ?_
    refine if_f (by rw [show (2520 : Int32) = nI 2520 by decide]; exact fun q => by have := (nI_ltI (by omega) (by omega)).mp q; omega) ?_
    refine if_f (by show ¬ A_score M (nI g) < 0; rw [es]; exact nI_pos (by omega)) ?_
    refine st_c (a := ()) (fun j68 h68 => ?_) ?_
    · by_cases h3 : nL M g = 3
      · refine if_f (by rw [h3]; decide) ?_
        have e0 : ents M g = [] := by
          apply List.eq_nil_of_length_eq_zero
          omega
        refine if_t (by rw [e0]; rfl) ?_
        refine if_t ?_ h68
        show A_score M (nI g) = 0
        rw [vA_score hW hg, y3, e0]
        rfl
      · refine if_t (by rw [show (3 : Int32) = nI 3 by decide]; exact nI_lt (by omega) (by omega)) h68
    · refine if_f (by show ¬ (500 : Int32) ≤ A_stack M (nI g); rw [vA_stack hW hg]; exact ho_stk hW hg) ?_
      refine st_c (a := ()) (fun j69 h69 => ?_) ?_
      · rcases ho_twin hW hg with et | ⟨b, hb, hbg, b26, be, g26, hne, et⟩
        · exact if_t et h69
        · have hlp : 0 < (ents M g).length := List.length_pos_iff.mpr hne
          obtain ⟨e, he⟩ : ∃ e, (ents M g)[(ents M g).length - 1]? = some e := ⟨_, List.getElem?_eq_getElem (by omega)⟩
          refine if_f (by rw [et]; exact of_eq_false (nI_m (by omega))) ?_
          refine if_t (by rw [← nL_e hW hg]; exact g26) ?_
          refine if_f (by rw [et]; exact fun q => hbg ((nI_eq (by omega) (by omega)).mp q)) ?_
          refine if_f (by exact nI_nle hlp (by omega)) ?_
          refine if_t (by rw [et, vA_logged hW hb, ← be]) ?_
          refine if_t ?_ ?_
          · show lg_cmp (A_entry M (A_twin M (nI g)) (nI (ents M g).length - (1 : Int32))) (A_entry M (nI g) (nI (ents M g).length - (1 : Int32))) = 0
            rw [et, nI_pred1 hlp, vA_entry hW hg he, vA_entry (k := (ents M g).length - 1) hW hb (by rw [← be]; exact he)]
            exact lg_same _
          · exact if_t (by rw [et, vA_balls hW hb]; exact b26) h69
      · refine if_t ?_ h45
        show lg_cmp (A_entry M (nI g) (nI (ents M g).length)) (-2000000001 : Int64) = 0
        rw [rA_entryL hW hg (by omega) (Nat.le_refl _)]
        decide
  · refine st_j ?_
    refine st_j ?_
    refine st_v (rm_7 hX) ?_
    have h7 : X % 7 < 7 := Nat.mod_lt _ (by omega)
    exact ho_ents hW j2 hI6 hg 1 361 (X % 7) 362 (-1) (by omega) (by omega) (by omega) (fun e _ => lgM (by unfold wh; omega))
theorem hi_c (h : Tie S M) (ht : t < nT M) (hp : p < 2 ^ 31) : A_high M (nI t) (nI p) = -1 ∨ ∃ g, g < nG M ∧ M 26 g = 0 ∧ rkB M t g = true ∧ cA (fun i => ah (vlV M t) i g) (nG M) = p ∧ A_high M (nI t) (nI p) = nI g := by
  have hG := nG40 h.1
  have e : A_high M (nI t) (nI p) = lst (fV M t (nI p)) (nG M) := an_d (sp_high h ht (nI_pos hp))
  rw [e]
  rcases lst_k (fV M t (nI p)) (nG M) with q | ⟨g, hg, f, q⟩
  · exact Or.inl q
  · have f := Bool.and_eq_true_iff.mp f
    have c1 := of_decide_eq_true f.1
    have c2 := of_decide_eq_true f.2
    have c3 := cA_le (fun i => ah (vlV M t) i g) (nG M)
    exact Or.inr ⟨g, hg, c1.2, f.1, (nI_eq (by omega) hp).mp c2, q⟩
theorem cA_n (hg : g < n) (V : Nat → Int32) : cA (fun i => ah V i g) n < n := by
  have h1 := cA_lt (f := fun i => ah V i g) (f1 := fun _ => true) (k := g) (ah_ir V g) rfl hg (fun _ _ _ => rfl)
  have h2 := cA_le (fun _ => true) n
  omega
theorem hi_40 (h : Tie S M) (ht : t < nT M) (h4 : 40 ≤ p) (hp : p < 2 ^ 31) : A_high M (nI t) (nI p) = -1 := by
  have hG := nG40 h.1
  rcases hi_c h ht hp with q | ⟨g, hg, -, -, q, -⟩
  · exact q
  · have := cA_n hg (vlV M t)
    omega
theorem hi_f {a c : Nat} (ha : a < n) (hc : c < n) (V : Nat → Int32) (h1 : cA (fun i => ah V i a) n = p) (h2 : cA (fun i => ah V i c) n = p + 1) : V c ≤ V a := by
  rw [← Int32.not_lt]
  intro q
  have e : ah V c a = true := decide_eq_true (Or.inl q)
  have := cA_lt (f := fun i => ah V i c) (f1 := fun i => ah V i a) (k := c) (ah_ir V c) e hc (fun i _ hi => ah_tr hi e)
  omega
theorem ho_high (h : Tie S M) (ht : t < nT M) : ∀ (d p fuel : Nat) (before : Int32), p + d = 41 → d < fuel → (∀ g, g < nG M → rkB M t g = true → cA (fun i => ah (vlV M t) i g) (nG M) = p → vlV M t g ≤ before) → lp (bHo2 M (1, nI t)) fuel (1, before, nI p) = some (.inl (1, nI (t + 1))) := by
  have hG := nG40 h.1
  intro d
  induction d with
  | zero =>
    intro p fuel before hp hf _
    obtain ⟨f, rfl⟩ : ∃ f, fuel = f + 1 := ⟨fuel - 1, by omega⟩
    refine lp_e _ f ?_
    unfold bHo2
    refine st_j ?_
    refine if_f i10 ?_
    refine if_t (by show A_high M (nI t) (nI p) < 0; rw [hi_40 h ht (by omega) (by omega)]; decide) ?_
    refine st_v (nI_1 t) ?_
    rfl
  | succ d ih =>
    intro p fuel before hp hf hb
    obtain ⟨f, rfl⟩ : ∃ f, fuel = f + 1 := ⟨fuel - 1, by omega⟩
    rcases hi_c h ht (show p < 2 ^ 31 by omega) with q | ⟨g, hg, g26, hr, hc, q⟩
    · refine lp_e _ f ?_
      unfold bHo2
      refine st_j ?_
      refine if_f i10 ?_
      refine if_t (by show A_high M (nI t) (nI p) < 0; rw [q]; decide) ?_
      refine st_v (nI_1 t) ?_
      rfl
    · have ev : A_valid M (nI g) = vlV M t g := by
        rw [vA_valid h hg]
        unfold vlV
        rw [if_pos hr]
      have e1 : bHo2 M (1, nI t) (1, before, nI p) = some (.inl (1, vlV M t g, nI (p + 1))) := by
        unfold bHo2
        refine st_j ?_
        refine if_f i10 ?_
        refine if_f (by show ¬ A_high M (nI t) (nI p) < 0; rw [q]; exact nI_pos (by omega)) ?_
        refine st_v q ?_
        refine st_j ?_
        refine st_j ?_
        refine if_t ((vA_balls h.1 hg).trans g26) ?_
        refine if_f (by show ¬ before < A_valid M (nI g); rw [ev]; exact Int32.not_lt.mpr (hb g hg hr hc)) ?_
        refine st_j ?_
        refine st_v ev ?_
        refine st_v (nI_1 p) ?_
        rfl
      rw [lp_s _ f e1]
      exact ih (p + 1) f _ (by omega) (by omega) (fun c hcn hcr hcc => hi_f hg hcn (vlV M t) hc hcc)
theorem holds_ok (h : Tie S M) (j1 : J1 M) (j2 : J2 M) (hI : ∀ t, t < 6 → I t = nI (nB M t)) (hI6 : I 6 = nI (nS M)) (hP : ∀ t, t < nT M → I (8 + t) = M 2 t) (hX : X < 2 ^ 31) : fL_holds M I (nI X) = some 1 := by
  have hG := nG40 h.1
  have hT6 := nT6 h.1
  unfold fL_holds
  refine cl_of (v := (1 : Int32)) (by rw [rm_2 hX]; exact plans_ok h hI hP (Nat.mod_lt _ (by omega))) ?_
  refine st_j ?_
  refine st_j ?_
  refine lp_up (body := bHo0 M I (nI X)) (fun g => ((1 : Int32), nI g)) (nG M) (by omega) ?_ (fun g hg => ho_game h j1 j2 hI6 hX hg) ?_
  · show ((1 : Int32), (0 : Int32)) = (1, nI 0)
    rw [nI_0]
  · unfold bHo0
    refine st_j ?_
    refine if_t (by show M 24 0 ≤ nI (nG M); rw [nG_e h.1]; exact Int32.le_refl _) ?_
    refine st_j ?_
    refine lp_up (body := bHo1 M) (fun t => ((1 : Int32), nI t)) (nT M) (by omega) ?_ (fun t ht => ?_) ?_
    · show ((1 : Int32), (0 : Int32)) = (1, nI 0)
      rw [nI_0]
    · unfold bHo1
      refine if_f (by show ¬ M 1 0 ≤ nI t; rw [nT_e h.1]; exact nI_ge ht (by omega)) ?_
      refine if_f i10 ?_
      refine st_j ?_
      refine st_j ?_
      have := ho_high h ht 41 0 42 2147483647 (by omega) (by omega) (fun g _ _ _ => le_max _)
      rw [nI_0] at this
      exact this
    · unfold bHo1
      refine if_t (by show M 1 0 ≤ nI (nT M); rw [nT_e h.1]; exact Int32.le_refl _) ?_
      exact gd_of (Or.inr rfl) rfl
/-- what the refusals ask of the rows -/
theorem inv_refuses (h : INV M) (hI : ∀ t, t < 6 → I t = nI (nB M t)) (hX : X < 9973) : fL_refuses M I (nI X) = some (1, M) := by
  obtain ⟨⟨S, hT⟩, -, -, j3⟩ := h
  have hG := nG40 hT.1
  refine refuses_ok hT hI (fun t ht => ?_) (fun t p ht h4 hp => hi_40 hT ht h4 hp) (fun v hv => ?_) hX
  · obtain ⟨-, m, -, m2, e⟩ := j3 t ht
    exact ⟨m, by omega, e⟩
  · obtain ⟨c, a, bst, hc, ha, e49, hPm, hpl, -, hway, g0, -⟩ := plA hT hv
    by_cases c0 : c = 0
    · refine Or.inr ⟨(g0 c0).1, (g0 c0).2, ?_⟩
      rw [hway, c0]
      exact nI_0
    · left
      have e := hpl 0 (by omega)
      rw [nI_0] at e
      rw [e]
      have h6 := nT6 hT.1
      have hb : bst 0 < nT M := (of_decide_eq_true (hPm.2.1 0 (by omega))).1
      exact Int32.not_lt.mp (nI_pos (by omega))
end PHO
