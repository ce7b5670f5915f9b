/-! THE TIE of the class's state (S) with the reference's (M) -/
theorem cl_s {α β : Type} (a : α) (k : α → Option β) : cl (some a) k = k a := rfl
theorem cl2_s {α β σ : Type} (a : α) (s : σ) (k : α → σ → Option β) : cl2 (some (a, s)) k = k a s := rfl
theorem st_s {α β : Type} (v : α) (k : α → Option β) : st v k = k v := rfl
theorem gd_t {β : Type} {P : Prop} [Decidable P] (h : P) (k : Option β) : gd P k = k := if_pos h
theorem om_n {β : Type} (a : Option β) (k : Nat → Option β) : om none a k = a := rfl
theorem om_s {β : Type} (n : Nat) (a : Option β) (k : Nat → Option β) : om (some n) a k = k n := rfl
theorem cx_r {α β : Type} (a : α) (k : α → Option ((Nat × zSt) ⊕ β)) : cx (some (.inr a)) k = k a := rfl
theorem cx_l {α β : Type} (e : Nat × zSt) (k : α → Option ((Nat × zSt) ⊕ β)) : cx (some (.inl e)) k = some (.inl e) := rfl
theorem cx2_r {α β : Type} (a : α) (s : zSt) (k : α → zSt → Option ((Nat × zSt) ⊕ β)) : cx2 (some (.inr (a, s))) k = k a s := rfl
theorem cx2_l {α β : Type} (e : Nat × zSt) (k : α → zSt → Option ((Nat × zSt) ⊕ β)) : cx2 (some (.inl e)) k = some (.inl e) := rfl
theorem fin_s {α : Type} (a : α) : fin (some a) = some (.inr a) := rfl
def nT (M : zMs) : Nat := (M 1 0).toNatClampNeg
def nG (M : zMs) : Nat := (M 24 0).toNatClampNeg
def nS (M : zMs) : Nat := (M 22 0).toNatClampNeg
def nB (M : zMs) (t : Nat) : Nat := (M 8 t).toNatClampNeg
def nD (M : zMs) (g : Nat) : Nat := (M 34 g).toNatClampNeg
def nL (M : zMs) (g : Nat) : Nat := (M 26 g).toNatClampNeg
/-- a number from a to b -/
def rng (a b : Nat) (x : Int32) : Prop := ∃ n, a ≤ n ∧ n ≤ b ∧ x = nI n
/-- a mode's row, or none -/
def mdOk (B E L T P : Int32) : Prop := B = -1 ∨ (rng 0 9 B ∧ rng 0 9 E ∧ rng 1 20 L ∧ rng 2 9 T ∧ rng 0 5000 P)
/-- a game -/
def gmOk (M : zMs) (g : Nat) : Prop :=
  (∃ t, t < nT M ∧ M 25 g = nI t) ∧ rng 0 3 (M 26 g) ∧ rng 0 3 (M 34 g) ∧
  (∀ k, k < nD M g → ∃ j, j < 4 ∧ M 35 (3 * g + k) = nI j ∧ M 29 (4 * g + j) ≠ -1) ∧
  (∀ k, k < 8 → rng 0 1000 (M 28 (8 * g + k))) ∧ (∀ j, j < 4 → mdOk (M 29 (4 * g + j)) (M 30 (4 * g + j)) (M 31 (4 * g + j)) (M 32 (4 * g + j)) (M 33 (4 * g + j))) ∧
  (∀ b, b < 3 - nL M g → ∃ n, 1 ≤ n ∧ n ≤ 300 ∧ M 37 (3 * g + b) = nI n ∧ (∀ s, s < n → ∃ x y, x ≤ 8 ∧ y ≤ 8 ∧ M 38 (300 * (3 * g + b) + s) = nI (x + 9 * y)) ∧ ∀ k, k < 8 → rng 0 60 (M 39 (8 * (3 * g + b) + k)))
/-- what holds of the reference's rows alone -/
def WM (M : zMs) : Prop :=
  rng 0 6 (M 1 0) ∧ rng 0 40 (M 24 0) ∧ rng 0 60 (M 22 0) ∧
  (∀ t, t < 6 → rng 0 8 (M 8 t) ∧ (nT M ≤ t → M 8 t = 0 ∧ M 4 t = 0 ∧ M 5 t = 0 ∧ M 6 t = 0)) ∧
  (∀ t, t < nT M → rng 0 100 (M 2 t) ∧ (M 7 t = -1 ∨ ∃ g, g < nG M ∧ M 7 t = nI g ∧ M 25 g = nI t ∧ 0 < nL M g)) ∧
  (∀ t b, t < 6 → b < 8 → (b < nB M t → rng 0 159 (M 9 (8 * t + b)) ∧ rng 0 239 (M 10 (8 * t + b)) ∧ rng 1 60 (M 11 (8 * t + b)) ∧ rng 1 60 (M 12 (8 * t + b)) ∧ rng 0 20 (M 13 (8 * t + b)) ∧ (M 16 (8 * t + b) = -1 ∨ ∃ k, k < nS M ∧ M 16 (8 * t + b) = nI k)) ∧
    (nB M t ≤ b → M 16 (8 * t + b) = -1 ∧ M 15 (8 * t + b) = 0)) ∧
  (∀ t k, t < 6 → k < 8 → rng 0 1000 (M 14 (8 * t + k)) ∧ (nT M ≤ t → M 14 (8 * t + k) = 0)) ∧
  (∀ t j, t < 6 → j < 4 → mdOk (M 17 (4 * t + j)) (M 18 (4 * t + j)) (M 19 (4 * t + j)) (M 20 (4 * t + j)) (M 21 (4 * t + j)) ∧ (nT M ≤ t → M 17 (4 * t + j) = -1)) ∧
  (∀ g, g < 40 → (g < nG M → gmOk M g) ∧ (nG M ≤ g → M 27 g = 0 ∧ M 34 g = 0)) ∧
  (∀ v, v < 2 → rng 0 100 (M 49 v)) ∧ (∀ i, i < 4 → rng 0 20 (M 50 i)) ∧ (∀ i, i < 60 → M 23 i = 0 ∨ M 23 i = 1)
/-- a mode of the class's, or none: its own k-th number; what is told where there is none -/
def vMd (S : zSt) (c : zId) (j k : Nat) (d : Int32) : Int32 := match zQ S c j with
  | none => d
  | some n => if zI S (4, n, 0) k = -1 then -2 else zI S (4, n, 0) k
/-- the class's state, read as the reference's rows -/
def vS (S : zSt) : zMs := fun k i => match k with
  | 1 => zI S (0, 0, 0) 2
  | 2 => zI S (8, i, 0) 0
  | 3 => zI S (8, i, 0) 1
  | 4 => zI S (8, i, 0) 5
  | 5 => zI S (8, i, 0) 6
  | 6 => zI S (8, i, 0) 7
  | 7 => zI S (8, i, 0) 4
  | 8 => zI S (0, i + 2, 0) 2
  | 9 => zI S (2, i / 8, i % 8) 0
  | 10 => zI S (2, i / 8, i % 8) 1
  | 11 => zI S (2, i / 8, i % 8) 2
  | 12 => zI S (2, i / 8, i % 8) 3
  | 13 => zI S (2, i / 8, i % 8) 4
  | 14 => zI S (12, 0, i / 8) (i % 8)
  | 15 => zI S (2, i / 8, i % 8) 5
  | 16 => zI S (2, i / 8, i % 8) 6
  | 17 => vMd S (13, 0, i / 4) (i % 4) 0 (-1)
  | 18 => vMd S (13, 0, i / 4) (i % 4) 1 0
  | 19 => vMd S (13, 0, i / 4) (i % 4) 2 0
  | 20 => vMd S (13, 0, i / 4) (i % 4) 3 0
  | 21 => vMd S (13, 0, i / 4) (i % 4) 4 0
  | 22 => zI S (10, 0, 0) 8
  | 23 => zI S (21, 0, 0) i
  | 24 => zI S (0, 1, 0) 2
  | 25 => zI S (3, i, 0) 0
  | 26 => 3 - zI S (3, i, 0) 5
  | 27 => zI S (6, 0, i) 3
  | 28 => zI S (12, 1, i / 8) (i % 8)
  | 29 => vMd S (13, 1, i / 4) (i % 4) 0 (-1)
  | 30 => vMd S (13, 1, i / 4) (i % 4) 1 0
  | 31 => vMd S (13, 1, i / 4) (i % 4) 2 0
  | 32 => vMd S (13, 1, i / 4) (i % 4) 3 0
  | 33 => vMd S (13, 1, i / 4) (i % 4) 4 0
  | 34 => zI S (6, 0, i) 2
  | 35 => zI S (14, 0, i / 3) (i % 3)
  | 36 => zI S (15, 0, i / 3) (i % 3)
  | 49 => zI S (9, i, 0) 1
  | 50 => zI S (20, i / 2, 0) (i % 2)
  | _ => 0
/-- where the two must agree -/
def dom (M : zMs) (k i : Nat) : Prop := match k with
  | 1 => i = 0
  | 2 => i < nT M
  | 3 => i < nT M
  | 4 => i < nT M
  | 5 => i < nT M
  | 6 => i < nT M
  | 7 => i < nT M
  | 8 => i < nT M
  | 9 => i / 8 < nT M ∧ i % 8 < nB M (i / 8)
  | 10 => i / 8 < nT M ∧ i % 8 < nB M (i / 8)
  | 11 => i / 8 < nT M ∧ i % 8 < nB M (i / 8)
  | 12 => i / 8 < nT M ∧ i % 8 < nB M (i / 8)
  | 13 => i / 8 < nT M ∧ i % 8 < nB M (i / 8)
  | 14 => i / 8 < nT M
  | 15 => i / 8 < nT M ∧ i % 8 < nB M (i / 8)
  | 16 => i / 8 < nT M ∧ i % 8 < nB M (i / 8)
  | 17 => i / 4 < nT M
  | 18 => i / 4 < nT M ∧ M 17 i ≠ -1
  | 19 => i / 4 < nT M ∧ M 17 i ≠ -1
  | 20 => i / 4 < nT M ∧ M 17 i ≠ -1
  | 21 => i / 4 < nT M ∧ M 17 i ≠ -1
  | 22 => i = 0
  | 23 => i < 60
  | 24 => i = 0
  | 25 => i < nG M
  | 26 => i < nG M
  | 27 => i < nG M
  | 28 => i / 8 < nG M
  | 29 => i / 4 < nG M
  | 30 => i / 4 < nG M ∧ M 29 i ≠ -1
  | 31 => i / 4 < nG M ∧ M 29 i ≠ -1
  | 32 => i / 4 < nG M ∧ M 29 i ≠ -1
  | 33 => i / 4 < nG M ∧ M 29 i ≠ -1
  | 34 => i < nG M
  | 35 => i / 3 < nG M ∧ i % 3 < nD M (i / 3)
  | 36 => i / 3 < nG M ∧ i % 3 < nD M (i / 3)
  | 49 => i < 2
  | 50 => i < 4
  | _ => False
def AG (S : zSt) (M : zMs) : Prop := ∀ k i, dom M k i → vS S k i = M k i
/-- a list of n -/
def zLs (S : zSt) (i n : Nat) : Prop := zI S (0, i, 0) 2 = nI n ∧ (∀ g, zN S (0, i, 0) 0 < g → zV S (23, i, g) = false) ∧ (zN S (0, i, 0) 0 = 0 → n = 0) ∧
  (zN S (0, i, 0) 0 ≠ 0 → zN S (23, i, zN S (0, i, 0) 0) 1 = n ∧ n ≤ zN S (23, i, zN S (0, i, 0) 0) 0 ∧ 10 ≤ zN S (23, i, zN S (0, i, 0) 0) 0 ∧ zN S (23, i, zN S (0, i, 0) 0) 0 ≤ 64)
/-- the names that stand, and those that are free -/
def NV (S : zSt) (M : zMs) : Prop :=
  zV S (10, 0, 0) = true ∧ zV S (1, 0, 0) = false ∧ zLs S 0 (nT M) ∧ zLs S 1 (nG M) ∧ (∀ t, t < nT M → zLs S (t + 2) (nB M t)) ∧
  (∀ t, nT M ≤ t → zV S (8, t, 0) = false ∧ zV S (0, t + 2, 0) = false ∧ zV S (7, 0, t) = false ∧ zV S (12, 0, t) = false ∧ zV S (13, 0, t) = false ∧ ∀ g, zV S (23, t + 2, g) = false) ∧
  (∀ t b, t < 6 → nB M t ≤ b → zV S (2, t, b) = false) ∧
  (∀ g, nG M ≤ g → zV S (3, g, 0) = false ∧ zV S (7, 1, g) = false ∧ zV S (12, 1, g) = false ∧ zV S (13, 1, g) = false ∧ zV S (6, 0, g) = false ∧ zV S (14, 0, g) = false ∧ zV S (15, 0, g) = false ∧ zV S (16, g, 0) = false) ∧
  (∀ n, zN S (10, 0, 0) 0 ≤ n → zV S (4, n, 0) = false) ∧
  (∀ t j n, t < nT M → zQ S (13, 0, t) j = some n → n < zN S (10, 0, 0) 0) ∧ (∀ g j n, g < nG M → zQ S (13, 1, g) j = some n → n < zN S (10, 0, 0) 0)
/-- what a part of a step tells (0: nothing) -/
def pt (M : zMs) (ball n w : Nat) : Nat :=
  if w = 0 then (M 38 (300 * ball + n - 1)).toNatClampNeg % 9 else if w = 1 then (M 38 (300 * ball + n - 1)).toNatClampNeg / 9 else
    if n % 10 = 0 ∧ (M 39 (8 * ball + w - 2)).toNatClampNeg ≠ 0 then w - 1 + 16 * (M 39 (8 * ball + w - 2)).toNatClampNeg else 0
def ptE (bi n v : Nat) : Nat := v % 16 - 1 + 16 * bi + 256 * n + 1048576 * (v / 16)
def entS (M : zMs) (ball bi n : Nat) : List Nat := (List.range 10).filterMap (fun w => if pt M ball n w = 0 then none else some (ptE bi n (pt M ball n w)))
def entB (M : zMs) (ball bi : Nat) : List Nat := (List.range (M 37 ball).toNatClampNeg).flatMap (fun n => entS M ball bi (n + 1))
/-- the log of a game -/
def ents (M : zMs) (g : Nat) : List Nat := (List.range (3 - nL M g)).flatMap (fun bi => entB M (3 * g + bi) bi)
def LG (S : zSt) (M : zMs) : Prop := ∀ g, g < nG M → zI S (3, g, 0) 4 = nI (ents M g).length ∧ ∀ k n, (ents M g)[k]? = some n → zL S (16, g, 0) k = Int64.ofNat n
def Tie (S : zSt) (M : zMs) : Prop := WM M ∧ AG S M ∧ NV S M ∧ LG S M
-- small numbers
theorem rng_n {a b : Nat} {x : Int32} (h : rng a b x) (hb : b < 2 ^ 31) : x = nI x.toNatClampNeg ∧ a ≤ x.toNatClampNeg ∧ x.toNatClampNeg ≤ b := by
  obtain ⟨n, h1, h2, rfl⟩ := h
  rw [nI_clamp (by omega)]
  exact ⟨rfl, h1, h2⟩
theorem in_eq (M : zMs) (v a b : Int32) : fX10_in M v a b = some (if v < a then 0 else if b < v then 0 else 1) := by
  unfold fX10_in
  rw [st_s]
  by_cases h1 : v < a
  · rw [if_pos h1, if_pos h1]
  · rw [if_neg h1, if_neg h1]
    by_cases h2 : b < v
    · rw [if_pos h2, if_pos h2]
    · rw [if_neg h2, if_neg h2]
theorem pred_lt {n j : Nat} (hn : n < 1000) (hj : j < 2 ^ 31) : (nI n - 1 < nI j) ↔ n ≤ j := by
  cases n with
  | zero =>
    have : (-1 : Int32) < nI j := by
      rw [Int32.lt_iff_toInt_lt, nI_toInt hj]
      show (-1 : Int) < j
      omega
    exact ⟨fun _ => Nat.zero_le _, fun _ => this⟩
  | succ m => rw [nI_pred, nI_ltI (by omega) hj]; omega
theorem isTable_in {M : zMs} (h : WM M) {t : Nat} (ht : t < nT M) : fX10_isTable M (nI t) = some 1 := by
  obtain ⟨e, -, h6⟩ := rng_n h.1 (by omega)
  unfold fX10_isTable
  rw [in_eq, cl_s, if_neg (nI_pos (show t < 2 ^ 31 by unfold nT at ht; omega)), e, if_neg]
  rw [pred_lt (by omega) (by unfold nT at ht; omega)]
  unfold nT at ht
  omega
theorem isTable_out {M : zMs} (h : WM M) {i : Int32} (hi : i < 0 ∨ nI (nT M) ≤ i) : fX10_isTable M i = some 0 := by
  obtain ⟨e, -, h6⟩ := rng_n h.1 (by omega)
  unfold fX10_isTable
  rw [in_eq, cl_s]
  by_cases h0 : i < 0
  · rw [if_pos h0]
  · rw [if_neg h0]
    obtain ⟨j, hj, rfl⟩ := nI_of h0
    rw [if_pos]
    rw [e, pred_lt (by omega) hj]
    have := hi.resolve_left h0
    rw [nI_leI (by unfold nT; omega) hj] at this
    exact this
