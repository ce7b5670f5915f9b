/-! a ball: what it bumps against, its speed behind that, its moves (the first rows: kit/laws/COUNTS.to-paste, a starting text) -/
theorem fb_rng (x : Int32) : -2147483648 ≤ x.toInt ∧ x.toInt < 2147483648 := by
  have h1 := Int32.le_toInt x
  have h2 := Int32.toInt_lt x
  omega
theorem fb_bmod {z : Int} (h1 : -2147483648 ≤ z) (h2 : z < 2147483648) : z.bmod (2 ^ 32) = z := by
  rw [Int.bmod_eq_of_le (by omega) (by omega)]
theorem fb_addI {x y : Int32} (h1 : -2147483648 ≤ x.toInt + y.toInt) (h2 : x.toInt + y.toInt < 2147483648) : (x + y).toInt = x.toInt + y.toInt := by
  rw [Int32.toInt_add, fb_bmod h1 h2]
theorem fb_subI {x y : Int32} (h1 : -2147483648 ≤ x.toInt - y.toInt) (h2 : x.toInt - y.toInt < 2147483648) : (x - y).toInt = x.toInt - y.toInt := by
  rw [Int32.toInt_sub, fb_bmod h1 h2]
theorem fb_negI {x : Int32} (h : x.toInt ≠ -2147483648) : (-x).toInt = -x.toInt := by
  have := fb_rng x
  rw [Int32.toInt_neg, fb_bmod (by omega) (by omega)]
def bOv9 (S : zSt) (a_z : Nat) (i_1 : Int32) (i_2 : Int32) : (Int32) → Option ((Int32) ⊕ Int32) := fun (q2 : (Int32)) =>
cl (fJ_size S (a_z + 2)) fun r9 =>
if r9 ≤ q2 then
some (.inr ((-1 : Int32)))
else
cl (fJ_get S (a_z + 2) q2) fun r12 =>
cl (fX1_holdsPart S a_z r12 i_1 i_2) fun r15 =>
if r15 = 0 then
st (q2 + (1 : Int32)) fun x18 =>
some (.inl (x18))
else
some (.inr (q2))
def bOv10 (M : zMs) (i_1 : Int32) (i_2 : Int32) (i_3 : Int32) : (Int32 × Int32) → Option ((Int32 × Int32) ⊕ Int32) := fun (q3 : (Int32 × Int32)) =>
if q3.2 < 0 then
some (.inr (q3.1))
else
st (((8 : Int32) * i_1) + q3.2) fun x9 =>
gd (¬ (x9 < 0 ∨ 48 ≤ x9.toNatClampNeg)) (
gd (¬ (x9 < 0 ∨ 48 ≤ x9.toNatClampNeg)) (
gd (¬ (x9 < 0 ∨ 48 ≤ x9.toNatClampNeg)) (
cl (fX10_in M i_2 (M 9 x9.toNatClampNeg) (((M 9 x9.toNatClampNeg) + (M 11 x9.toNatClampNeg)) - (1 : Int32))) fun r10 =>
st (fun (y13 : Int32) => (st y13 fun x15 =>
st (q3.2 + (-1 : Int32)) fun x16 =>
some (.inl (x15, x16)) : Option ((Int32 × Int32) ⊕ Int32))) fun j14 =>
st (fun (u_ : Unit) => (j14 q3.1 : Option ((Int32 × Int32) ⊕ Int32))) fun j17 =>
if r10 = 0 then
j17 ()
else
gd (¬ (x9 < 0 ∨ 48 ≤ x9.toNatClampNeg)) (
gd (¬ (x9 < 0 ∨ 48 ≤ x9.toNatClampNeg)) (
gd (¬ (x9 < 0 ∨ 48 ≤ x9.toNatClampNeg)) (
cl (fX10_in M i_3 (M 10 x9.toNatClampNeg) (((M 10 x9.toNatClampNeg) + (M 12 x9.toNatClampNeg)) - (1 : Int32))) fun r18 =>
if r18 = 0 then
j17 ()
else
j14 q3.2))))))
def acJ (a_1 : Nat) (x1 : Int32) (S3 : zSt) : Option (Int32 × zSt) :=
cl (fX7_bumperOver S3 a_1 (zI S3 (1, 0, 0) 0) (zI S3 (1, 0, 0) 1)) fun r5 =>
st r5 fun x7 =>
if x7 < 0 then
some ((x7, S3))
else
cl (fJ_size S3 (a_1 + 2)) fun r9 =>
if r9 ≤ x7 then
some ((x7, S3))
else
st (pI S3 (1, 0, 0) 0 x1) fun S11 =>
cl (fJ_get S11 (a_1 + 2) x7) fun r13 =>
cl (fX1_speedBehindBump S11 a_1 r13 (zI S11 (1, 0, 0) 2)) fun r16 =>
st (pI S11 (1, 0, 0) 2 r16) fun S18 =>
some ((x7, S18))
def acX (S : zSt) (a_1 : Nat) : Option (Int32 × zSt) :=
st (zI S (1, 0, 0) 0) fun x1 =>
st (pI S (1, 0, 0) 0 ((zI S (1, 0, 0) 0) + (zI S (1, 0, 0) 2))) fun S2 =>
st (fun (S3 : zSt) => (acJ a_1 x1 S3 : Option (Int32 × zSt))) fun j4 =>
st (fun (u_ : Unit) => (st (fun (y20 : Int32) => (st (pI S2 (1, 0, 0) 0 y20) fun S22 =>
st (pI S22 (1, 0, 0) 2 (-(zI S22 (1, 0, 0) 2))) fun S23 =>
j4 S23 : Option (Int32 × zSt))) fun j21 =>
if 0 ≤ (zI S2 (1, 0, 0) 0) then
j21 ((318 : Int32) - (zI S2 (1, 0, 0) 0))
else
j21 (-(zI S2 (1, 0, 0) 0)) : Option (Int32 × zSt))) fun j19 =>
if (zI S2 (1, 0, 0) 0) < 0 then
j19 ()
else
if (zI S2 (1, 0, 0) 0) ≤ (159 : Int32) then
j4 S2
else
j19 ()
def dwJ (a_1 : Nat) (x1 : Int32) (S6 : zSt) : Option (Int32 × zSt) :=
cl (fX7_bumperOver S6 a_1 (zI S6 (1, 0, 0) 0) (zI S6 (1, 0, 0) 1)) fun r8 =>
st r8 fun x10 =>
if x10 < 0 then
some ((x10, S6))
else
cl (fJ_size S6 (a_1 + 2)) fun r12 =>
if r12 ≤ x10 then
some ((x10, S6))
else
st (pI S6 (1, 0, 0) 1 x1) fun S14 =>
cl (fJ_get S14 (a_1 + 2) x10) fun r16 =>
cl (fX1_speedBehindBump S14 a_1 r16 (zI S14 (1, 0, 0) 3)) fun r19 =>
st (pI S14 (1, 0, 0) 3 r19) fun S21 =>
some ((x10, S21))
def dwX (S : zSt) (a_1 : Nat) : Option (Int32 × zSt) :=
st (zI S (1, 0, 0) 1) fun x1 =>
st (pI S (1, 0, 0) 1 ((zI S (1, 0, 0) 1) + (zI S (1, 0, 0) 3))) fun S2 =>
cl (fX0_isOut S2) fun r3 =>
if r3 = 0 then
st (fun (S6 : zSt) => (dwJ a_1 x1 S6 : Option (Int32 × zSt))) fun j7 =>
if 0 ≤ (zI S2 (1, 0, 0) 1) then
j7 S2
else
st (pI S2 (1, 0, 0) 1 (-(zI S2 (1, 0, 0) 1))) fun S22 =>
st (pI S22 (1, 0, 0) 3 (-(zI S22 (1, 0, 0) 3))) fun S23 =>
j7 S23
else
some (((-1 : Int32), S2))
section PBA
variable {S S1 S2 : zSt} {M M1 : zMs} {t n b : Nat} {x y sx sy : Int32}
def spd (v : Int32) : Prop := -30 ≤ v.toInt ∧ v.toInt ≤ 30
def yok (v : Int32) : Prop := 0 ≤ v.toInt ∧ v.toInt ≤ 239
/-- the bumpers of a table, alike -/
def BU (S : zSt) (M : zMs) (t n : Nat) : Prop := n ≤ 8 ∧ t < 6 ∧ M 8 t = nI n ∧ zLs S (t + 2) n ∧ ∀ b, b < n → zI S (2, t, b) 0 = M 9 (8 * t + b) ∧ zI S (2, t, b) 1 = M 10 (8 * t + b) ∧ zI S (2, t, b) 2 = M 11 (8 * t + b) ∧ zI S (2, t, b) 3 = M 12 (8 * t + b) ∧ zI S (2, t, b) 4 = M 13 (8 * t + b) ∧ zI S (2, t, b) 5 = M 15 (8 * t + b) ∧ zI S (2, t, b) 6 = M 16 (8 * t + b) ∧ rng 0 159 (M 9 (8 * t + b)) ∧ rng 0 239 (M 10 (8 * t + b)) ∧ rng 1 60 (M 11 (8 * t + b)) ∧ rng 1 60 (M 12 (8 * t + b)) ∧ rng 0 20 (M 13 (8 * t + b)) ∧ (M 16 (8 * t + b) = -1 ∨ ∃ k, k < 60 ∧ M 16 (8 * t + b) = nI k)
def bF (S S1 : zSt) : Prop := (∀ c : zId, c ≠ (1, 0, 0) → zI S1 c = zI S c) ∧ (∀ c, zL S1 c = zL S c) ∧ (∀ c, zQ S1 c = zQ S c) ∧ (∀ c, zN S1 c = zN S c) ∧ (∀ c, zV S1 c = zV S c)
theorem bF_r (S : zSt) : bF S S := ⟨fun _ _ => rfl, fun _ => rfl, fun _ => rfl, fun _ => rfl, fun _ => rfl⟩
theorem bF_t (h : bF S S1) (h1 : bF S1 S2) : bF S S2 := ⟨fun c x => (h1.1 c x).trans (h.1 c x), fun c => (h1.2.1 c).trans (h.2.1 c), fun c => (h1.2.2.1 c).trans (h.2.2.1 c), fun c => (h1.2.2.2.1 c).trans (h.2.2.2.1 c), fun c => (h1.2.2.2.2 c).trans (h.2.2.2.2 c)⟩
theorem bF_p (S : zSt) (k : Nat) (v : Int32) : bF S (pI S (1, 0, 0) k v) := ⟨fun d hd => zI_pIn S hd k v, fun _ => rfl, fun _ => rfl, fun _ => rfl, fun _ => rfl⟩
theorem BU_F (h : BU S M t n) (hF : bF S S1) : BU S1 M t n := by
  obtain ⟨h1, h2, h3, h4, h5⟩ := h
  refine ⟨h1, h2, h3, ?_, fun b hb => ?_⟩
  · unfold zLs at h4 ⊢
    rw [hF.1 _ (kne (show (0 : Nat) ≠ 1 by decide)), hF.2.2.2.1, hF.2.2.2.1]
    exact ⟨h4.1, fun g hg => by rw [hF.2.2.2.2]; exact h4.2.1 g hg, h4.2.2⟩
  · rw [hF.1 _ (kne (show (2 : Nat) ≠ 1 by decide))]; exact h5 b hb
def inBx (M : zMs) (t : Nat) (x y : Int32) (b : Nat) : Bool := decide ((M 9 (8 * t + b) ≤ x ∧ x ≤ M 9 (8 * t + b) + M 11 (8 * t + b) - 1) ∧ (M 10 (8 * t + b) ≤ y ∧ y ≤ M 10 (8 * t + b) + M 12 (8 * t + b) - 1))
theorem le_pr (x : Int32) {k : Nat} (h0 : 0 < k) (hk : k < 2 ^ 31) : x ≤ nI k - 1 ↔ ¬ nI k ≤ x := by
  rw [nI_pred1 h0, Int32.le_iff_toInt_le, Int32.le_iff_toInt_le, nI_toInt (by omega), nI_toInt hk]
  omega
theorem holds9 (h : BU S M t n) (hb : b < n) (x y : Int32) : fX1_holdsPart S t b x y = some (if inBx M t x y b = true then 1 else 0) := by
  obtain ⟨h1, h2, h3, h4, h5⟩ := h
  obtain ⟨c0, c1, c2, c3, -, -, -, ⟨l, -, hl, el⟩, ⟨tp, -, htp, etp⟩, ⟨wd, hw1, hw, ewd⟩, ⟨hg, hh1, hh, ehg⟩, -, -⟩ := h5 b hb
  unfold fX1_holdsPart inBx
  rw [c0, c1, c2, c3, el, etp, ewd, ehg, nI_add, nI_add]
  have p1 := le_pr x (k := l + wd) (by omega) (by omega)
  have p2 := le_pr y (k := tp + hg) (by omega) (by omega)
  by_cases a1 : x < nI l
  · simp only [st_q, a1, if_true, Int32.not_le.mpr a1, false_and, decide_false, Bool.false_eq_true, if_false]
  · by_cases a2 : nI (l + wd) ≤ x
    · have q : ¬ x ≤ nI (l + wd) - 1 := fun q => p1.mp q a2
      simp only [st_q, a1, a2, if_true, q, and_false, false_and, decide_false, Bool.false_eq_true, if_false]
    · have q := p1.mpr a2
      by_cases a3 : y < nI tp
      · simp only [st_q, a1, a2, a3, if_true, Int32.not_le.mpr a3, false_and, and_false, decide_false, Bool.false_eq_true, if_false]
      · by_cases a4 : nI (tp + hg) ≤ y
        · have q2 : ¬ y ≤ nI (tp + hg) - 1 := fun q => p2.mp q a4
          simp only [st_q, a1, a2, a3, a4, if_true, q2, and_false, decide_false, Bool.false_eq_true, if_false]
        · have q2 := p2.mpr a4
          simp only [st_q, a1, a2, a3, a4, if_false, q, q2, Int32.not_lt.mp a1, Int32.not_lt.mp a3, and_self, decide_true, if_true]
theorem over9 (h : BU S M t n) (x y : Int32) : fX7_bumperOver S t x y = some (fst (inBx M t x y) 0 n) := by
  have hn := h.1
  have hl := h.2.2.2.1
  unfold fX7_bumperOver
  rw [st_s]
  have main : ∀ dd k fuel, k + dd = n → dd < fuel → lp (bOv9 S t x y) fuel (nI k) = some (fst (inBx M t x y) k dd) := by
    intro dd
    induction dd with
    | zero =>
      intro k fuel hk hf
      obtain ⟨f, rfl⟩ : ∃ f, fuel = f + 1 := ⟨fuel - 1, by omega⟩
      refine lp_e _ f ?_
      unfold bOv9
      rw [zLs_size hl, cl_s, if_pos (nI_le (by omega) (by omega))]
      rfl
    | succ dd ih =>
      intro k fuel hk hf
      obtain ⟨f, rfl⟩ : ∃ f, fuel = f + 1 := ⟨fuel - 1, by omega⟩
      have hk1 : k < n := by omega
      have ge : ¬ nI n ≤ nI k := nI_ge hk1 (by omega)
      show _ = some (if inBx M t x y k = true then nI k else fst (inBx M t x y) (k + 1) dd)
      by_cases e : inBx M t x y k = true
      · have eb : bOv9 S t x y (nI k) = some (.inr (nI k)) := by
          unfold bOv9
          simp only [zLs_size hl, cl_q, ge, if_false, zLs_get hl (show n ≤ 64 by omega) hk1, holds9 h hk1, e, if_true, i10]
        rw [lp_e _ f eb, if_pos e]
      · have ef : inBx M t x y k = false := Bool.eq_false_iff.mpr e
        have eb : bOv9 S t x y (nI k) = some (.inl (nI (k + 1))) := by
          unfold bOv9
          simp only [zLs_size hl, cl_q, ge, if_false, zLs_get hl (show n ≤ 64 by omega) hk1, holds9 h hk1, ef, Bool.false_eq_true, if_true, st_q, nI_1]
        rw [lp_s _ f eb, if_neg e]
        exact ih (k + 1) f (by omega) (by omega)
  have := main n 0 40000 (by omega) (by omega)
  rw [nI_0] at this
  exact this
theorem over10 (h : BU S M t n) (x y : Int32) : fX10_bumperAt M (nI t) x y = some (fst (inBx M t x y) 0 n) := by
  have hn := h.1
  have ht := h.2.1
  have h8 := h.2.2.1
  have ct : (nI t).toNatClampNeg = t := nI_clamp (by omega)
  have main : ∀ dd k fuel, dd ≤ n → dd < fuel → k = dd → lp (bOv10 M (nI t) x y) fuel (fst (inBx M t x y) dd (n - dd), nI k - 1) = some (fst (inBx M t x y) 0 n) := by
    intro dd
    induction dd with
    | zero =>
      intro k fuel hd hf hk
      obtain ⟨f, rfl⟩ : ∃ f, fuel = f + 1 := ⟨fuel - 1, by omega⟩
      refine lp_e _ f ?_
      unfold bOv10
      rw [hk, nI_0]
      simp only [z01, if_true, Nat.sub_zero]
    | succ dd ih =>
      intro k fuel hd hf hk
      obtain ⟨f, rfl⟩ : ∃ f, fuel = f + 1 := ⟨fuel - 1, by omega⟩
      have hkk : nI k - 1 = nI dd := by rw [hk, nI_pred]
      have hd1 : nI dd + (-1) = nI dd - 1 := (Int32.sub_eq_add_neg _ _).symm
      have c48 : (nI (8 * t + dd)).toNatClampNeg = 8 * t + dd := nI_clamp (by omega)
      have g48 : ¬ 48 ≤ 8 * t + dd := by omega
      have hs : fst (inBx M t x y) dd (n - dd) = if inBx M t x y dd = true then nI dd else fst (inBx M t x y) (dd + 1) (n - (dd + 1)) := by
        rw [show n - dd = (n - (dd + 1)) + 1 by omega]
        rfl
      have eb : bOv10 M (nI t) x y (fst (inBx M t x y) (dd + 1) (n - (dd + 1)), nI k - 1) = some (.inl (fst (inBx M t x y) dd (n - dd), nI dd - 1)) := by
        rw [hs]
        unfold bOv10
        by_cases a1 : inR x (M 9 (8 * t + dd)) (M 9 (8 * t + dd) + M 11 (8 * t + dd) - 1)
        · by_cases a2 : inR y (M 10 (8 * t + dd)) (M 10 (8 * t + dd) + M 12 (8 * t + dd) - 1)
          · have eI : inBx M t x y dd = true := decide_eq_true ⟨a1, a2⟩
            simp only [hkk, nI_pos (show dd < 2 ^ 31 by omega), if_false, st_q, ix8, c48, nI_pos (show 8 * t + dd < 2 ^ 31 by omega), false_or, g48, not_false_eq_true, gd_T, in_in a1, in_in a2, cl_q, i10, eI, if_true, hd1]
          · have eI : inBx M t x y dd = false := decide_eq_false (fun q => a2 q.2)
            simp only [hkk, nI_pos (show dd < 2 ^ 31 by omega), if_false, st_q, ix8, c48, nI_pos (show 8 * t + dd < 2 ^ 31 by omega), false_or, g48, not_false_eq_true, gd_T, in_in a1, in_out a2, cl_q, i10, eI, Bool.false_eq_true, if_true, hd1]
        · have eI : inBx M t x y dd = false := decide_eq_false (fun q => a1 q.1)
          simp only [hkk, nI_pos (show dd < 2 ^ 31 by omega), if_false, st_q, ix8, c48, nI_pos (show 8 * t + dd < 2 ^ 31 by omega), false_or, g48, not_false_eq_true, gd_T, in_out a1, cl_q, eI, Bool.false_eq_true, if_true, hd1]
      rw [lp_s _ f eb]
      exact ih dd f (by omega) (by omega) rfl
  have := main n n 40000 (Nat.le_refl _) (by omega) rfl
  rw [Nat.sub_self] at this
  unfold fX10_bumperAt
  rw [st_s, gd_t (by rw [ct]; exact fun q => q.elim (nI_pos (by omega)) (by omega)), ct, h8, st_s]
  exact this
/-- the bumper that is found, or none -/
theorem fst_c (f : Nat → Bool) : ∀ (n k : Nat), fst f k n = -1 ∨ ∃ b, k ≤ b ∧ b < k + n ∧ fst f k n = nI b := by
  intro n
  induction n with
  | zero => intro k; exact Or.inl rfl
  | succ n ih =>
    intro k
    have e : fst f k (n + 1) = if f k = true then nI k else fst f (k + 1) n := rfl
    by_cases hk : f k = true
    · rw [if_pos hk] at e
      exact Or.inr ⟨k, Nat.le_refl _, by omega, e⟩
    · rw [if_neg hk] at e
      rcases ih (k + 1) with q | ⟨b, b1, b2, b3⟩
      · exact Or.inl (e.trans q)
      · exact Or.inr ⟨b, by omega, by omega, e.trans b3⟩
/-- a speed behind a bump -/
def kvG (M : zMs) (i : Nat) (s : Int32) : Int32 := if (if 0 ≤ -s then -s else -(-s)) + M 13 i ≤ 30 then (if 0 ≤ -s then -s else -(-s)) + M 13 i else 30
def kv (M : zMs) (i : Nat) (s : Int32) : Int32 := if -s = 0 then -s else if M 15 i < 40 then (if 0 ≤ -s then kvG M i s else -kvG M i s) else -s
theorem kick10 (ht : t < 6) (hb : b < 8) (s : Int32) : fX10_kicked M (nI t) (nI b) s = some (kv M (8 * t + b) s) := by
  have c48 : (nI (8 * t + b)).toNatClampNeg = 8 * t + b := nI_clamp (by omega)
  have g48 : ¬ 48 ≤ 8 * t + b := by omega
  unfold fX10_kicked kv kvG
  by_cases a1 : -s = 0
  · simp only [st_q, a1, if_true]
  · by_cases a2 : M 15 (8 * t + b) < 40
    · by_cases a3 : 0 ≤ -s
      · by_cases a4 : -s + M 13 (8 * t + b) ≤ 30
        · simp only [st_q, ix8, c48, nI_pos (show 8 * t + b < 2 ^ 31 by omega), false_or, g48, not_false_eq_true, gd_T, a1, a2, a3, a4, if_true, if_false]
        · simp only [st_q, ix8, c48, nI_pos (show 8 * t + b < 2 ^ 31 by omega), false_or, g48, not_false_eq_true, gd_T, a1, a2, a3, a4, if_true, if_false]
      · by_cases a4 : -(-s) + M 13 (8 * t + b) ≤ 30
        · simp only [st_q, ix8, c48, nI_pos (show 8 * t + b < 2 ^ 31 by omega), false_or, g48, not_false_eq_true, gd_T, a1, a2, a3, a4, if_true, if_false]
        · simp only [st_q, ix8, c48, nI_pos (show 8 * t + b < 2 ^ 31 by omega), false_or, g48, not_false_eq_true, gd_T, a1, a2, a3, a4, if_true, if_false]
    · simp only [st_q, ix8, c48, nI_pos (show 8 * t + b < 2 ^ 31 by omega), false_or, g48, not_false_eq_true, gd_T, a1, a2, if_false]
theorem ti0 : (0 : Int32).toInt = 0 := by decide
theorem ti30 : (30 : Int32).toInt = 30 := by decide
theorem ti2 : (2 : Int32).toInt = 2 := by decide
theorem ti239 : (239 : Int32).toInt = 239 := by decide
theorem neg_t {s : Int32} (h : spd s) : (-s).toInt = -s.toInt := fb_negI (by have := h.1; omega)
theorem neg_spd {s : Int32} (h : spd s) : spd (-s) := by
  unfold spd at *
  rw [fb_negI (by omega)]
  omega
theorem kv_spd (hk : rng 0 20 (M 13 b)) {s : Int32} (h : spd s) : spd (kv M b s) := by
  obtain ⟨kk, -, hkk, ek⟩ := hk
  have hn := neg_t h
  have hnn : (-(-s)).toInt = s.toInt := by rw [neg_t (neg_spd h), hn]; omega
  have hkt : (nI kk).toInt = kk := nI_toInt (by omega)
  have hG : 0 ≤ (kvG M b s).toInt ∧ (kvG M b s).toInt ≤ 30 := by
    unfold kvG
    rw [ek]
    have h1 := h.1
    have h2 := h.2
    by_cases a3 : 0 ≤ -s
    · rw [if_pos a3]
      rw [Int32.le_iff_toInt_le, ti0, hn] at a3
      have e : (-s + nI kk).toInt = -s.toInt + kk := by rw [fb_addI (by rw [hn, hkt]; omega) (by rw [hn, hkt]; omega), hn, hkt]
      by_cases a4 : -s + nI kk ≤ 30
      · rw [if_pos a4]
        rw [Int32.le_iff_toInt_le, ti30, e] at a4
        rw [e]
        omega
      · rw [if_neg a4, ti30]; omega
    · rw [if_neg a3]
      rw [Int32.le_iff_toInt_le, ti0, hn] at a3
      have e : (-(-s) + nI kk).toInt = s.toInt + kk := by rw [fb_addI (by rw [hnn, hkt]; omega) (by rw [hnn, hkt]; omega), hnn, hkt]
      by_cases a4 : -(-s) + nI kk ≤ 30
      · rw [if_pos a4]
        rw [Int32.le_iff_toInt_le, ti30, e] at a4
        rw [e]
        omega
      · rw [if_neg a4, ti30]; omega
  unfold kv
  by_cases a1 : -s = 0
  · rw [if_pos a1]; exact neg_spd h
  · rw [if_neg a1]
    by_cases a2 : M 15 b < 40
    · rw [if_pos a2]
      have hs : spd (kvG M b s) := ⟨by omega, hG.2⟩
      by_cases a3 : 0 ≤ -s
      · rw [if_pos a3]; exact hs
      · rw [if_neg a3]; exact neg_spd hs
    · rw [if_neg a2]; exact neg_spd h
theorem kick9 (h : BU S M t n) (hb : b < n) {s : Int32} (hs : spd s) : fX1_speedBehindBump S t b s = some (kv M (8 * t + b) s) := by
  obtain ⟨h1, h2, h3, h4, h5⟩ := h
  obtain ⟨-, -, -, -, c4, c5, -⟩ := h5 b hb
  have hn := neg_t hs
  have s0 : s = 0 ↔ -s = 0 := by
    constructor
    · intro q
      rw [q]
      decide
    · intro q
      apply Int32.toInt_inj.mp
      have q2 := congrArg Int32.toInt q
      rw [hn, ti0] at q2
      rw [ti0]
      omega
  have sle : s ≤ 0 ↔ 0 ≤ -s := by
    rw [Int32.le_iff_toInt_le, Int32.le_iff_toInt_le, hn, ti0]
    omega
  have sA : (if 0 ≤ s then s else 0 - s) = (if 0 ≤ -s then -s else -(-s)) := by
    by_cases a : 0 ≤ -s
    · rw [if_pos a]
      by_cases a2 : 0 ≤ s
      · rw [if_pos a2]
        apply Int32.toInt_inj.mp
        rw [Int32.le_iff_toInt_le, ti0] at a2
        rw [Int32.le_iff_toInt_le, ti0, hn] at a
        rw [hn]
        omega
      · rw [if_neg a2, Int32.zero_sub]
    · have a2 : 0 ≤ s := by
        rw [Int32.le_iff_toInt_le, ti0, hn] at a
        rw [Int32.le_iff_toInt_le, ti0]
        omega
      rw [if_neg a, if_pos a2, Int32.neg_neg]
  have hB : fX1_isBroken S t b = some (if M 15 (8 * t + b) < 40 then 0 else 1) := by
    unfold fX1_isBroken
    rw [c5]
    by_cases e : M 15 (8 * t + b) < 40
    · rw [if_pos e, if_pos e]
    · rw [if_neg e, if_neg e]
  have hG : ∀ f : Int32, (if f < 30 then f else 30) = (if f ≤ 30 then f else 30) := by
    intro f
    by_cases a : f < 30
    · rw [if_pos a, if_pos (Int32.le_of_lt a)]
    · rw [if_neg a]
      by_cases a2 : f ≤ 30
      · rw [if_pos a2]
        exact (Int32.le_antisymm a2 (Int32.not_lt.mp a)).symm
      · rw [if_neg a2]
  unfold fX1_speedBehindBump kv kvG
  rw [c4, sA, hG]
  by_cases a1 : -s = 0
  · have a1' := s0.mpr a1
    simp only [st_q, a1', if_true, a1]
    rw [a1'] at a1
    rw [if_pos a1]
  · have a1' : ¬ s = 0 := fun q => a1 (s0.mp q)
    by_cases a2 : M 15 (8 * t + b) < 40
    · by_cases a3 : 0 ≤ -s
      · simp only [st_q, a1', if_false, hB, a2, if_true, cl_q, sle.mpr a3, a1, a3]
      · have a3' : ¬ s ≤ 0 := fun q => a3 (sle.mp q)
        simp only [st_q, a1', if_false, hB, a2, if_true, cl_q, a3', a1, a3]
    · simp only [st_q, a1', if_false, hB, a2, cl_q, i10, a1]
/-- where the ball is -/
def BL (S : zSt) (x y sx sy : Int32) : Prop := zI S (1, 0, 0) 0 = x ∧ zI S (1, 0, 0) 1 = y ∧ zI S (1, 0, 0) 2 = sx ∧ zI S (1, 0, 0) 3 = sy
def crV (x sx : Int32) : Int32 × Int32 := if x < 0 then (-x, -sx) else if x ≤ 159 then (x, sx) else (318 - x, -sx)
def boV (M : zMs) (t : Nat) (r o1 s1 o2 s2 : Int32) : Int32 × Int32 := if r = -1 then (o1, s1) else (o2, kv M (8 * t + r.toNatClampNeg) s2)
theorem fall9 (h : BL S x y sx sy) : ∃ S1, fX0_fall S = some S1 ∧ BL S1 x y sx (if sy + 2 ≤ 30 then sy + 2 else 30) ∧ bF S S1 := by
  obtain ⟨b0, b1, b2, b3⟩ := h
  have e : (if sy + 2 < 30 then sy + 2 else 30) = (if sy + 2 ≤ 30 then sy + 2 else 30) := by
    by_cases a : sy + 2 < 30
    · rw [if_pos a, if_pos (Int32.le_of_lt a)]
    · rw [if_neg a]
      by_cases a2 : sy + 2 ≤ 30
      · rw [if_pos a2]
        exact (Int32.le_antisymm a2 (Int32.not_lt.mp a)).symm
      · rw [if_neg a2]
  refine ⟨_, by unfold fX0_fall; rw [st_s], ⟨?_, ?_, ?_, ?_⟩, bF_p S 3 _⟩
  · rw [zI_at, if_neg (fun q => absurd q.2 (by decide))]; exact b0
  · rw [zI_at, if_neg (fun q => absurd q.2 (by decide))]; exact b1
  · rw [zI_at, if_neg (fun q => absurd q.2 (by decide))]; exact b2
  · rw [zI_at, if_pos ⟨rfl, rfl⟩, b3]; exact e
theorem fall_spd (h : spd sy) : spd (if sy + 2 ≤ 30 then sy + 2 else 30) := by
  unfold spd at *
  by_cases a : sy + 2 ≤ 30
  · rw [if_pos a]
    rw [Int32.le_iff_toInt_le, ti30] at a
    have e : (sy + 2).toInt = sy.toInt + 2 := by rw [fb_addI (by rw [ti2]; omega) (by rw [ti2]; omega), ti2]
    rw [e] at a ⊢
    omega
  · rw [if_neg a, ti30]; omega
theorem acX_eq (S : zSt) (t : Nat) : fX0_moveAcross S t = acX S t := rfl
theorem dwX_eq (S : zSt) (t : Nat) : fX0_moveDownwards S t = dwX S t := rfl
theorem acJ_eq (hU : BU S M t n) (h : BL S x y sx sy) (hs : spd sx) (x1 : Int32) : ∃ S1, acJ t x1 S = some (fst (inBx M t x y) 0 n, S1) ∧ BL S1 (boV M t (fst (inBx M t x y) 0 n) x sx x1 sx).1 y (boV M t (fst (inBx M t x y) 0 n) x sx x1 sx).2 sy ∧ bF S S1 := by
  obtain ⟨b0, b1, b2, b3⟩ := h
  have hn := hU.1
  unfold acJ boV
  rw [b0, b1, over9 hU, cl_s, st_s]
  rcases fst_c (inBx M t x y) n 0 with q | ⟨b, -, hb, q⟩
  · rw [q]
    refine ⟨S, by rw [if_pos (by decide)], ?_, bF_r S⟩
    rw [if_pos rfl]
    exact ⟨b0, b1, b2, b3⟩
  · rw [q, if_neg (nI_pos (by omega)), zLs_size hU.2.2.2.1, cl_s, if_neg (nI_ge (by omega) (by omega)), st_s, if_neg (of_eq_false (nI_m (by omega))), nI_clamp (by omega)]
    have U2 := BU_F hU (bF_p S 0 x1)
    rw [zLs_get U2.2.2.2.1 (by omega) (show b < n by omega), cl_s, zI_at, if_neg (fun q => absurd q.2 (by decide)), b2, kick9 U2 (show b < n by omega) hs, cl_s, st_s]
    refine ⟨_, rfl, ⟨?_, ?_, ?_, ?_⟩, bF_t (bF_p S 0 x1) (bF_p _ 2 _)⟩
    · rw [zI_at, if_neg (fun q => absurd q.2 (by decide)), zI_at, if_pos ⟨rfl, rfl⟩]
    · rw [zI_at, if_neg (fun q => absurd q.2 (by decide)), zI_at, if_neg (fun q => absurd q.2 (by decide))]; exact b1
    · rw [zI_at, if_pos ⟨rfl, rfl⟩]
    · rw [zI_at, if_neg (fun q => absurd q.2 (by decide)), zI_at, if_neg (fun q => absurd q.2 (by decide))]; exact b3
theorem dwJ_eq (hU : BU S M t n) (h : BL S x y sx sy) (hs : spd sy) (y1 : Int32) : ∃ S1, dwJ t y1 S = some (fst (inBx M t x y) 0 n, S1) ∧ BL S1 x (boV M t (fst (inBx M t x y) 0 n) y sy y1 sy).1 sx (boV M t (fst (inBx M t x y) 0 n) y sy y1 sy).2 ∧ bF S S1 := by
  obtain ⟨b0, b1, b2, b3⟩ := h
  have hn := hU.1
  unfold dwJ boV
  rw [b0, b1, over9 hU, cl_s, st_s]
  rcases fst_c (inBx M t x y) n 0 with q | ⟨b, -, hb, q⟩
  · rw [q]
    refine ⟨S, by rw [if_pos (by decide)], ?_, bF_r S⟩
    rw [if_pos rfl]
    exact ⟨b0, b1, b2, b3⟩
  · rw [q, if_neg (nI_pos (by omega)), zLs_size hU.2.2.2.1, cl_s, if_neg (nI_ge (by omega) (by omega)), st_s, if_neg (of_eq_false (nI_m (by omega))), nI_clamp (by omega)]
    have U2 := BU_F hU (bF_p S 1 y1)
    rw [zLs_get U2.2.2.2.1 (by omega) (show b < n by omega), cl_s, zI_at, if_neg (fun q => absurd q.2 (by decide)), b3, kick9 U2 (show b < n by omega) hs, cl_s, st_s]
    refine ⟨_, rfl, ⟨?_, ?_, ?_, ?_⟩, bF_t (bF_p S 1 y1) (bF_p _ 3 _)⟩
    · rw [zI_at, if_neg (fun q => absurd q.2 (by decide)), zI_at, if_neg (fun q => absurd q.2 (by decide))]; exact b0
    · rw [zI_at, if_neg (fun q => absurd q.2 (by decide)), zI_at, if_pos ⟨rfl, rfl⟩]
    · rw [zI_at, if_neg (fun q => absurd q.2 (by decide)), zI_at, if_neg (fun q => absurd q.2 (by decide))]; exact b2
    · rw [zI_at, if_pos ⟨rfl, rfl⟩]
theorem crV_spd (h : spd sx) (x : Int32) : spd (crV x sx).2 := by
  unfold crV
  by_cases a : x < 0
  · rw [if_pos a]; exact neg_spd h
  · rw [if_neg a]
    by_cases a2 : x ≤ 159
    · rw [if_pos a2]; exact h
    · rw [if_neg a2]; exact neg_spd h
/-- to the right -/
theorem acr9 (hU : BU S M t n) (h : BL S x y sx sy) (hs : spd sx) : ∃ S1, fX0_moveAcross S t = some (fst (inBx M t (crV (x + sx) sx).1 y) 0 n, S1) ∧ BL S1 (boV M t (fst (inBx M t (crV (x + sx) sx).1 y) 0 n) (crV (x + sx) sx).1 (crV (x + sx) sx).2 x (crV (x + sx) sx).2).1 y (boV M t (fst (inBx M t (crV (x + sx) sx).1 y) 0 n) (crV (x + sx) sx).1 (crV (x + sx) sx).2 x (crV (x + sx) sx).2).2 sy ∧ bF S S1 := by
  obtain ⟨b0, b1, b2, b3⟩ := h
  rw [acX_eq]
  unfold acX
  rw [b0, b2, st_s, st_s, st_s, st_s]
  have e0 : zI (pI S (1, 0, 0) 0 (x + sx)) (1, 0, 0) 0 = x + sx := by rw [zI_at, if_pos ⟨rfl, rfl⟩]
  have B2 : BL (pI S (1, 0, 0) 0 (x + sx)) (x + sx) y sx sy := ⟨e0, by rw [zI_at, if_neg (fun q => absurd q.2 (by decide))]; exact b1, by rw [zI_at, if_neg (fun q => absurd q.2 (by decide))]; exact b2, by rw [zI_at, if_neg (fun q => absurd q.2 (by decide))]; exact b3⟩
  rw [e0]
  have out : ∀ v : Int32, ∃ S1, (st (pI (pI S (1, 0, 0) 0 (x + sx)) (1, 0, 0) 0 v) fun S22 => st (pI S22 (1, 0, 0) 2 (-(zI S22 (1, 0, 0) 2))) fun S23 => acJ t x S23) = some (fst (inBx M t v y) 0 n, S1) ∧ BL S1 (boV M t (fst (inBx M t v y) 0 n) v (-sx) x (-sx)).1 y (boV M t (fst (inBx M t v y) 0 n) v (-sx) x (-sx)).2 sy ∧ bF S S1 := by
    intro v
    have F3 : bF S (pI (pI (pI S (1, 0, 0) 0 (x + sx)) (1, 0, 0) 0 v) (1, 0, 0) 2 (-sx)) := bF_t (bF_t (bF_p S 0 _) (bF_p _ 0 _)) (bF_p _ 2 _)
    have B3 : BL (pI (pI (pI S (1, 0, 0) 0 (x + sx)) (1, 0, 0) 0 v) (1, 0, 0) 2 (-sx)) v y (-sx) sy := ⟨by rw [zI_at, if_neg (fun q => absurd q.2 (by decide)), zI_at, if_pos ⟨rfl, rfl⟩], by rw [zI_at, if_neg (fun q => absurd q.2 (by decide)), zI_at, if_neg (fun q => absurd q.2 (by decide)), zI_at, if_neg (fun q => absurd q.2 (by decide))]; exact b1, by rw [zI_at, if_pos ⟨rfl, rfl⟩], by rw [zI_at, if_neg (fun q => absurd q.2 (by decide)), zI_at, if_neg (fun q => absurd q.2 (by decide)), zI_at, if_neg (fun q => absurd q.2 (by decide))]; exact b3⟩
    obtain ⟨S1, e1, e2, e3⟩ := acJ_eq (BU_F hU F3) B3 (neg_spd hs) x
    refine ⟨S1, ?_, e2, bF_t F3 e3⟩
    rw [st_s, st_s]
    have e2 : zI (pI (pI S (1, 0, 0) 0 (x + sx)) (1, 0, 0) 0 v) (1, 0, 0) 2 = sx := by rw [zI_at, if_neg (fun q => absurd q.2 (by decide)), zI_at, if_neg (fun q => absurd q.2 (by decide))]; exact b2
    rw [e2]
    exact e1
  unfold crV
  by_cases a : x + sx < 0
  · rw [if_pos a, if_pos a]
    show ∃ S1, (st _ fun j21 => if 0 ≤ x + sx then _ else _) = _ ∧ _
    rw [st_s, if_neg (Int32.not_le.mpr a)]
    exact out (-(x + sx))
  · rw [if_neg a, if_neg a]
    by_cases a2 : x + sx ≤ 159
    · rw [if_pos a2, if_pos a2]
      obtain ⟨S1, e1, e2, e3⟩ := acJ_eq (BU_F hU (bF_p S 0 (x + sx))) B2 hs x
      exact ⟨S1, e1, e2, bF_t (bF_p S 0 _) e3⟩
    · rw [if_neg a2, if_neg a2]
      show ∃ S1, (st _ fun j21 => if 0 ≤ x + sx then _ else _) = _ ∧ _
      rw [st_s, if_pos (Int32.not_lt.mp a)]
      exact out (318 - (x + sx))
/-- downwards, out of the field -/
theorem dwn9o (h : BL S x y sx sy) (ho : ¬ y + sy ≤ 239) : ∃ S1, fX0_moveDownwards S t = some (-1, S1) ∧ BL S1 x (y + sy) sx sy ∧ bF S S1 := by
  obtain ⟨b0, b1, b2, b3⟩ := h
  rw [dwX_eq]
  unfold dwX fX0_isOut
  have e0 : zI (pI S (1, 0, 0) 1 (y + sy)) (1, 0, 0) 1 = y + sy := by rw [zI_at, if_pos ⟨rfl, rfl⟩]
  rw [b1, b3, st_s, st_s, e0, if_neg ho, cl_s, if_neg i10]
  exact ⟨_, rfl, ⟨by rw [zI_at, if_neg (fun q => absurd q.2 (by decide))]; exact b0, e0, by rw [zI_at, if_neg (fun q => absurd q.2 (by decide))]; exact b2, by rw [zI_at, if_neg (fun q => absurd q.2 (by decide))]; exact b3⟩, bF_p S 1 _⟩
def dnV (y sy : Int32) : Int32 × Int32 := if 0 ≤ y then (y, sy) else (-y, -sy)
theorem dwn9 (hU : BU S M t n) (h : BL S x y sx sy) (hs : spd sy) (ho : y + sy ≤ 239) : ∃ S1, fX0_moveDownwards S t = some (fst (inBx M t x (dnV (y + sy) sy).1) 0 n, S1) ∧ BL S1 x (boV M t (fst (inBx M t x (dnV (y + sy) sy).1) 0 n) (dnV (y + sy) sy).1 (dnV (y + sy) sy).2 y (dnV (y + sy) sy).2).1 sx (boV M t (fst (inBx M t x (dnV (y + sy) sy).1) 0 n) (dnV (y + sy) sy).1 (dnV (y + sy) sy).2 y (dnV (y + sy) sy).2).2 ∧ bF S S1 := by
  obtain ⟨b0, b1, b2, b3⟩ := h
  rw [dwX_eq]
  unfold dwX fX0_isOut dnV
  have e0 : zI (pI S (1, 0, 0) 1 (y + sy)) (1, 0, 0) 1 = y + sy := by rw [zI_at, if_pos ⟨rfl, rfl⟩]
  rw [b1, b3, st_s, st_s, e0, if_pos ho, cl_s, if_pos rfl, st_s]
  by_cases a : 0 ≤ y + sy
  · rw [if_pos a, if_pos a]
    have B2 : BL (pI S (1, 0, 0) 1 (y + sy)) x (y + sy) sx sy := ⟨by rw [zI_at, if_neg (fun q => absurd q.2 (by decide))]; exact b0, e0, by rw [zI_at, if_neg (fun q => absurd q.2 (by decide))]; exact b2, by rw [zI_at, if_neg (fun q => absurd q.2 (by decide))]; exact b3⟩
    obtain ⟨S1, e1, e2, e3⟩ := dwJ_eq (BU_F hU (bF_p S 1 (y + sy))) B2 hs y
    exact ⟨S1, e1, e2, bF_t (bF_p S 1 _) e3⟩
  · rw [if_neg a, if_neg a, st_s, st_s]
    have e3 : zI (pI (pI S (1, 0, 0) 1 (y + sy)) (1, 0, 0) 1 (-(y + sy))) (1, 0, 0) 3 = sy := by rw [zI_at, if_neg (fun q => absurd q.2 (by decide)), zI_at, if_neg (fun q => absurd q.2 (by decide))]; exact b3
    rw [e3]
    have F3 : bF S (pI (pI (pI S (1, 0, 0) 1 (y + sy)) (1, 0, 0) 1 (-(y + sy))) (1, 0, 0) 3 (-sy)) := bF_t (bF_t (bF_p S 1 _) (bF_p _ 1 _)) (bF_p _ 3 _)
    have B3 : BL (pI (pI (pI S (1, 0, 0) 1 (y + sy)) (1, 0, 0) 1 (-(y + sy))) (1, 0, 0) 3 (-sy)) x (-(y + sy)) sx (-sy) := ⟨by rw [zI_at, if_neg (fun q => absurd q.2 (by decide)), zI_at, if_neg (fun q => absurd q.2 (by decide)), zI_at, if_neg (fun q => absurd q.2 (by decide))]; exact b0, by rw [zI_at, if_neg (fun q => absurd q.2 (by decide)), zI_at, if_pos ⟨rfl, rfl⟩], by rw [zI_at, if_neg (fun q => absurd q.2 (by decide)), zI_at, if_neg (fun q => absurd q.2 (by decide)), zI_at, if_neg (fun q => absurd q.2 (by decide))]; exact b2, by rw [zI_at, if_pos ⟨rfl, rfl⟩]⟩
    obtain ⟨S1, e1, e2, e4⟩ := dwJ_eq (BU_F hU F3) B3 (neg_spd hs) y
    exact ⟨S1, e1, e2, bF_t F3 e4⟩
theorem boV_spd (hU : BU S M t n) {o1 o2 s : Int32} (hs : spd s) (f : Nat → Bool) : spd (boV M t (fst f 0 n) o1 s o2 s).2 := by
  unfold boV
  rcases fst_c f n 0 with q | ⟨b, -, hb, q⟩
  · rw [q, if_pos rfl]; exact hs
  · have hn := hU.1
    rw [q, if_neg (of_eq_false (nI_m (by omega))), nI_clamp (by omega)]
    obtain ⟨-, -, -, -, -, -, -, -, -, -, -, r13, -⟩ := hU.2.2.2.2 b (by omega)
    exact kv_spd r13 hs
/-- a place that is not out stays in the field -/
theorem dn_ok (hy : yok y) (hs : spd sy) (ho : y + sy ≤ 239) : yok (dnV (y + sy) sy).1 ∧ spd (dnV (y + sy) sy).2 := by
  obtain ⟨y1, y2⟩ := hy
  obtain ⟨s1, s2⟩ := hs
  have e : (y + sy).toInt = y.toInt + sy.toInt := fb_addI (by omega) (by omega)
  rw [Int32.le_iff_toInt_le, ti239, e] at ho
  unfold dnV
  by_cases a : 0 ≤ y + sy
  · rw [if_pos a]
    rw [Int32.le_iff_toInt_le, ti0, e] at a
    exact ⟨⟨by show 0 ≤ (y + sy).toInt; omega, by show (y + sy).toInt ≤ 239; omega⟩, s1, s2⟩
  · rw [if_neg a]
    rw [Int32.le_iff_toInt_le, ti0, e] at a
    have e2 : (-(y + sy)).toInt = -(y.toInt + sy.toInt) := by rw [fb_negI (by omega), e]
    exact ⟨⟨by show 0 ≤ (-(y + sy)).toInt; omega, by show (-(y + sy)).toInt ≤ 239; omega⟩, neg_spd ⟨s1, s2⟩⟩
theorem boV_y (f : Nat → Bool) {o1 o2 s1 s2 : Int32} (h1 : yok o1) (h2 : yok o2) : yok (boV M t (fst f 0 n) o1 s1 o2 s2).1 := by
  unfold boV
  by_cases e : fst f 0 n = -1
  · rw [if_pos e]; exact h1
  · rw [if_neg e]; exact h2
theorem yok_239 (h : yok y) : y ≤ 239 := by
  rw [Int32.le_iff_toInt_le, ti239]; exact h.2
end PBA
