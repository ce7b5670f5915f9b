/-! addBumper -/
def tailBm (M : zMs) (i_1 : Int32) (i_2 : Int32) (i_3 : Int32) (i_4 : Int32) (i_5 : Int32) (y4 : Int32) : Option (Int32 × zMs) :=
st y4 fun x7 =>
cl (fX10_isTable M i_1) fun r8 =>
st (fun (y11 : Int32) => (st y11 fun x14 =>
cl (fX10_isTable M i_1) fun r15 =>
st (fun (y18 : Int32) => (cl2 (fX10_refused M y18) fun r20 M22 =>
if r20 = 0 then
gd (¬ (i_1 < 0 ∨ 6 ≤ i_1.toNatClampNeg)) (
st (((8 : Int32) * i_1) + (M22 8 i_1.toNatClampNeg)) fun x24 =>
gd (¬ (x24 < 0 ∨ 48 ≤ x24.toNatClampNeg)) (
st (pM M22 9 x24.toNatClampNeg i_2) fun M25 =>
gd (¬ (x24 < 0 ∨ 48 ≤ x24.toNatClampNeg)) (
st (pM M25 10 x24.toNatClampNeg i_3) fun M26 =>
gd (¬ (x24 < 0 ∨ 48 ≤ x24.toNatClampNeg)) (
st (pM M26 11 x24.toNatClampNeg (i_4 / (100 : Int32))) fun M27 =>
gd (¬ (x24 < 0 ∨ 48 ≤ x24.toNatClampNeg)) (
st (pM M27 12 x24.toNatClampNeg (i_4 - i_4 / (100 : Int32) * (100 : Int32))) fun M28 =>
gd (¬ (x24 < 0 ∨ 48 ≤ x24.toNatClampNeg)) (
st (pM M28 13 x24.toNatClampNeg i_5) fun M29 =>
gd (¬ (i_1 < 0 ∨ 6 ≤ i_1.toNatClampNeg)) (
gd (¬ (i_1 < 0 ∨ 6 ≤ i_1.toNatClampNeg)) (
st (pM M29 8 i_1.toNatClampNeg ((M29 8 i_1.toNatClampNeg) + (1 : Int32))) fun M30 =>
gd (¬ (i_1 < 0 ∨ 6 ≤ i_1.toNatClampNeg)) (
some ((((M30 8 i_1.toNatClampNeg) - (1 : Int32)), M30)))))))))))
else
some (((0 : Int32), M22)) : Option (Int32 × zMs))) fun j19 =>
if r15 = 0 then
j19 (1 : Int32)
else
if x7 = 0 then
j19 (2 : Int32)
else
if x14 = 0 then
j19 (3 : Int32)
else
j19 (0 : Int32) : Option (Int32 × zMs))) fun j13 =>
st (fun (u_ : Unit) => (j13 (0 : Int32) : Option (Int32 × zMs))) fun j31 =>
if r8 = 0 then
j31 ()
else
if x7 = 0 then
j31 ()
else
cl (fX10_isFree M i_1) fun r32 =>
if r32 = 0 then
j31 ()
else
gd (¬ (i_1 < 0 ∨ 6 ≤ i_1.toNatClampNeg)) (
if (8 : Int32) ≤ (M 8 i_1.toNatClampNeg) then
j31 ()
else
j13 (1 : Int32))
section PB2
variable {S S1 S2 : zSt} {M M1 : zMs} {t b : Nat}
def pBm (t b : Nat) (c : zId) : Prop := c = (2, t, b) ∨ ((c.1 = 0 ∨ c.1 = 23) ∧ c.2.1 = t + 2)
def mBm (M : zMs) (t b : Nat) (i2 i3 iw ih i5 : Int32) : zMs := pM (pM (pM (pM (pM (pM (pM M 0 0 0) 9 (8 * t + b) i2) 10 (8 * t + b) i3) 11 (8 * t + b) iw) 12 (8 * t + b) ih) 13 (8 * t + b) i5) 8 t (nI (b + 1))
theorem mBm_o {i2 i3 iw ih i5 : Int32} (k : Nat) (h : k ≠ 0 ∧ k ≠ 8 ∧ k ≠ 9 ∧ k ≠ 10 ∧ k ≠ 11 ∧ k ≠ 12 ∧ k ≠ 13) : mBm M t b i2 i3 iw ih i5 k = M k := by
  unfold mBm
  simp (disch := omega) only [pMn]
theorem mBm_8 {i2 i3 iw ih i5 : Int32} (u : Nat) : mBm M t b i2 i3 iw ih i5 8 u = if u = t then nI (b + 1) else M 8 u := by
  unfold mBm
  rw [pM_at]
  by_cases e : u = t
  · rw [if_pos ⟨rfl, e⟩, if_pos e]
  · rw [if_neg (fun q => e q.2), if_neg e]
    simp (disch := omega) only [pMn]
theorem mBm_9 {i2 i3 iw ih i5 : Int32} (u : Nat) : mBm M t b i2 i3 iw ih i5 9 u = if u = 8 * t + b then i2 else M 9 u := by
  unfold mBm
  simp (disch := omega) only [pMn]
  rw [pM_at]
  by_cases e : u = 8 * t + b
  · rw [if_pos ⟨rfl, e⟩, if_pos e]
  · rw [if_neg (fun q => e q.2), if_neg e]
    simp (disch := omega) only [pMn]
theorem mBm_10 {i2 i3 iw ih i5 : Int32} (u : Nat) : mBm M t b i2 i3 iw ih i5 10 u = if u = 8 * t + b then i3 else M 10 u := by
  unfold mBm
  simp (disch := omega) only [pMn]
  rw [pM_at]
  by_cases e : u = 8 * t + b
  · rw [if_pos ⟨rfl, e⟩, if_pos e]
  · rw [if_neg (fun q => e q.2), if_neg e]
    simp (disch := omega) only [pMn]
theorem mBm_11 {i2 i3 iw ih i5 : Int32} (u : Nat) : mBm M t b i2 i3 iw ih i5 11 u = if u = 8 * t + b then iw else M 11 u := by
  unfold mBm
  simp (disch := omega) only [pMn]
  rw [pM_at]
  by_cases e : u = 8 * t + b
  · rw [if_pos ⟨rfl, e⟩, if_pos e]
  · rw [if_neg (fun q => e q.2), if_neg e]
    simp (disch := omega) only [pMn]
theorem mBm_12 {i2 i3 iw ih i5 : Int32} (u : Nat) : mBm M t b i2 i3 iw ih i5 12 u = if u = 8 * t + b then ih else M 12 u := by
  unfold mBm
  simp (disch := omega) only [pMn]
  rw [pM_at]
  by_cases e : u = 8 * t + b
  · rw [if_pos ⟨rfl, e⟩, if_pos e]
  · rw [if_neg (fun q => e q.2), if_neg e]
    simp (disch := omega) only [pMn]
theorem mBm_13 {i2 i3 iw ih i5 : Int32} (u : Nat) : mBm M t b i2 i3 iw ih i5 13 u = if u = 8 * t + b then i5 else M 13 u := by
  unfold mBm
  simp (disch := omega) only [pMn]
  rw [pM_at]
  by_cases e : u = 8 * t + b
  · rw [if_pos ⟨rfl, e⟩, if_pos e]
  · rw [if_neg (fun q => e q.2), if_neg e]
    simp (disch := omega) only [pMn]
theorem bm_n {i2 i3 iw ih i5 : Int32} (h8 : b < 8) : nT (mBm M t b i2 i3 iw ih i5) = nT M ∧ (∀ u, nB (mBm M t b i2 i3 iw ih i5) u = if u = t then b + 1 else nB M u) ∧ nG (mBm M t b i2 i3 iw ih i5) = nG M ∧ nS (mBm M t b i2 i3 iw ih i5) = nS M ∧ (∀ g, nD (mBm M t b i2 i3 iw ih i5) g = nD M g) ∧ ∀ g, nL (mBm M t b i2 i3 iw ih i5) g = nL M g := by
  refine ⟨by unfold nT; rw [mBm_o 1 (by omega)], fun u => ?_, by unfold nG; rw [mBm_o 24 (by omega)], by unfold nS; rw [mBm_o 22 (by omega)], fun g => by unfold nD; rw [mBm_o 34 (by omega)], fun g => by unfold nL; rw [mBm_o 26 (by omega)]⟩
  unfold nB
  rw [mBm_8]
  by_cases e : u = t
  · rw [if_pos e, if_pos e]; exact nI_clamp (by omega)
  · rw [if_neg e, if_neg e]
theorem bm_wm (h : WM M) (ht : t < nT M) (hb : b = nB M t) (h8 : b < 8) {i2 i3 iw ih i5 : Int32} (r2 : inR i2 0 159) (r3 : inR i3 0 239) (rw1 : inR iw 1 60) (rh : inR ih 1 60) (r5 : inR i5 0 20) : WM (mBm M t b i2 i3 iw ih i5) := by
  have hT6 := nT6 h
  obtain ⟨eT, eB, eG, eS, eD, eL⟩ := bm_n (M := M) (t := t) (i2 := i2) (i3 := i3) (iw := iw) (ih := ih) (i5 := i5) h8
  obtain ⟨w1, w2, w3, w4, w5, w6, w7, w8, w9, w10, w11, w12⟩ := h
  obtain ⟨a2, a2a, a2b, rfl⟩ := inR_of r2 (m := 0) (n := 159) (by decide) (by decide) (by decide) (by decide)
  obtain ⟨a3, a3a, a3b, rfl⟩ := inR_of r3 (m := 0) (n := 239) (by decide) (by decide) (by decide) (by decide)
  obtain ⟨aw, awa, awb, rfl⟩ := inR_of rw1 (m := 1) (n := 60) (by decide) (by decide) (by decide) (by decide)
  obtain ⟨ah1, aha, ahb, rfl⟩ := inR_of rh (m := 1) (n := 60) (by decide) (by decide) (by decide) (by decide)
  obtain ⟨a5, a5a, a5b, rfl⟩ := inR_of r5 (m := 0) (n := 20) (by decide) (by decide) (by decide) (by decide)
  have m (k : Nat) (hk : k ≠ 0 ∧ k ≠ 8 ∧ k ≠ 9 ∧ k ≠ 10 ∧ k ≠ 11 ∧ k ≠ 12 ∧ k ≠ 13) : mBm M t b (nI a2) (nI a3) (nI aw) (nI ah1) (nI a5) k = M k := mBm_o k hk
  unfold WM
  rw [m 1 (by omega), m 24 (by omega), m 22 (by omega), m 4 (by omega), m 5 (by omega), m 6 (by omega), m 2 (by omega), m 7 (by omega), m 25 (by omega), m 16 (by omega), m 15 (by omega), m 14 (by omega), m 17 (by omega), m 18 (by omega), m 19 (by omega), m 20 (by omega), m 21 (by omega), m 27 (by omega), m 34 (by omega), m 49 (by omega), m 50 (by omega), m 23 (by omega), eT, eG, eS]
  refine ⟨w1, w2, w3, fun u hu => ⟨?_, fun hn => ?_⟩, fun u hu => ⟨(w5 u hu).1, ?_⟩, fun u k hu hk => ?_, w7, w8, fun g hg => ⟨fun hn => gm_mono ((w9 g hg).1 hn) (by rw [eT]; exact Nat.le_refl _) (congrFun (m 25 (by omega)) g) (congrFun (m 26 (by omega)) g) (congrFun (m 34 (by omega)) g) (fun k _ => congrFun (m 35 (by omega)) _) (fun k _ => congrFun (m 28 (by omega)) _) (fun k _ => ⟨congrFun (m 29 (by omega)) _, congrFun (m 30 (by omega)) _, congrFun (m 31 (by omega)) _, congrFun (m 32 (by omega)) _, congrFun (m 33 (by omega)) _⟩) (m 37 (by omega)) (m 38 (by omega)) (m 39 (by omega)), (w9 g hg).2⟩, w10, w11, w12⟩
  · rw [mBm_8]
    by_cases e : u = t
    · rw [if_pos e]; exact ⟨b + 1, Nat.zero_le _, by omega, rfl⟩
    · rw [if_neg e]; exact (w4 u hu).1
  · rw [mBm_8, if_neg (by omega)]
    exact (w4 u hu).2 hn
  · rcases (w5 u hu).2 with q | ⟨g, q1, q2, q3, q4⟩
    · exact Or.inl q
    · exact Or.inr ⟨g, q1, q2, q3, by rw [eL]; exact q4⟩
  · obtain ⟨q1, q2⟩ := w6 u k hu hk
    rw [mBm_9, mBm_10, mBm_11, mBm_12, mBm_13, eB]
    by_cases e : 8 * u + k = 8 * t + b
    · have eu : u = t := by omega
      have ek : k = b := by omega
      rw [if_pos e, if_pos e, if_pos e, if_pos e, if_pos e, if_pos eu]
      have q3 := q2 (by rw [eu, ek]; omega)
      exact ⟨fun _ => ⟨⟨a2, a2a, a2b, rfl⟩, ⟨a3, a3a, a3b, rfl⟩, ⟨aw, awa, awb, rfl⟩, ⟨ah1, aha, ahb, rfl⟩, ⟨a5, a5a, a5b, rfl⟩, Or.inl q3.1⟩, fun hn => absurd hn (by omega)⟩
    · rw [if_neg e, if_neg e, if_neg e, if_neg e, if_neg e]
      by_cases eu : u = t
      · rw [if_pos eu]
        subst eu
        exact ⟨fun hn => q1 (by omega), fun hn => q2 (by omega)⟩
      · rw [if_neg eu]
        exact ⟨q1, q2⟩
theorem bm_ag (h : Tie S M) (ht : t < nT M) (hb : b = nB M t) (h8 : b < 8) {i2 i3 iw ih i5 : Int32} (F : fY S S2 (pBm t b)) (I2 : zI S2 (2, t, b) = (fun k => ([i2, i3, iw, ih, i5, (0 : Int32), (-1 : Int32)] : List Int32).getD k 0)) (l2 : zLs S2 (t + 2) (b + 1)) : AG S2 (mBm M t b i2 i3 iw ih i5) := by
  have hT6 := nT6 h.1
  obtain ⟨eT, eB, eG, eS, eD, eL⟩ := bm_n (M := M) (t := t) (i2 := i2) (i3 := i3) (iw := iw) (ih := ih) (i5 := i5) h8
  have h4 : ∀ n, ¬ pBm t b (4, n, 0) := fun n => (by unfold pBm; simp only [Prod.mk.injEq]; omega)
  have w6 := h.1.2.2.2.2.2.1
  have m (k : Nat) (hk : k ≠ 0 ∧ k ≠ 8 ∧ k ≠ 9 ∧ k ≠ 10 ∧ k ≠ 11 ∧ k ≠ 12 ∧ k ≠ 13) : mBm M t b i2 i3 iw ih i5 k = M k := mBm_o k hk
  have old : ∀ k i, dom M k i → mBm M t b i2 i3 iw ih i5 k i = M k i → ¬ pBm t b (rC k i) → vS S2 k i = mBm M t b i2 i3 iw ih i5 k i := by
    intro k i hd hm hp
    rw [vS_fY F hp (fun _ n _ _ => h4 n), hm]
    exact h.2.1 k i hd
  intro k i hd
  match k, hd with
  | 0, hd => exact hd.elim
  | 1, hd => exact old 1 i (show dom M 1 i from (show i = 0 from hd)) (congrFun (m 1 (by omega)) i) (show ¬ pBm t b (0, 0, 0) from (by unfold pBm; simp only [Prod.mk.injEq]; omega))
  | 2, hd => exact old 2 i (by have hd : i < nT (mBm M t b i2 i3 iw ih i5) := hd; rw [eT] at hd; exact hd) (congrFun (m 2 (by omega)) i) (show ¬ pBm t b (8, i, 0) from (by unfold pBm; simp only [Prod.mk.injEq]; omega))
  | 3, hd => exact old 3 i (by have hd : i < nT (mBm M t b i2 i3 iw ih i5) := hd; rw [eT] at hd; exact hd) (congrFun (m 3 (by omega)) i) (show ¬ pBm t b (8, i, 0) from (by unfold pBm; simp only [Prod.mk.injEq]; omega))
  | 4, hd => exact old 4 i (by have hd : i < nT (mBm M t b i2 i3 iw ih i5) := hd; rw [eT] at hd; exact hd) (congrFun (m 4 (by omega)) i) (show ¬ pBm t b (8, i, 0) from (by unfold pBm; simp only [Prod.mk.injEq]; omega))
  | 5, hd => exact old 5 i (by have hd : i < nT (mBm M t b i2 i3 iw ih i5) := hd; rw [eT] at hd; exact hd) (congrFun (m 5 (by omega)) i) (show ¬ pBm t b (8, i, 0) from (by unfold pBm; simp only [Prod.mk.injEq]; omega))
  | 6, hd => exact old 6 i (by have hd : i < nT (mBm M t b i2 i3 iw ih i5) := hd; rw [eT] at hd; exact hd) (congrFun (m 6 (by omega)) i) (show ¬ pBm t b (8, i, 0) from (by unfold pBm; simp only [Prod.mk.injEq]; omega))
  | 7, hd => exact old 7 i (by have hd : i < nT (mBm M t b i2 i3 iw ih i5) := hd; rw [eT] at hd; exact hd) (congrFun (m 7 (by omega)) i) (show ¬ pBm t b (8, i, 0) from (by unfold pBm; simp only [Prod.mk.injEq]; omega))
  | 8, hd =>
    have hi : i < nT M := by rw [← eT]; exact hd
    by_cases e : i = t
    · show zI S2 (0, i + 2, 0) 2 = mBm M t b i2 i3 iw ih i5 8 i
      rw [mBm_8, if_pos e, e, l2.1]
    · exact old 8 i hi (by rw [mBm_8, if_neg e]) (show ¬ pBm t b (0, i + 2, 0) from (by unfold pBm; simp only [Prod.mk.injEq]; omega))
  | 9, hd =>
    have hi : i / 8 < nT (mBm M t b i2 i3 iw ih i5) ∧ i % 8 < nB (mBm M t b i2 i3 iw ih i5) (i / 8) := hd
    rw [eT, eB] at hi
    by_cases e : i = 8 * t + b
    · have e1 : i / 8 = t := by omega
      have e2 : i % 8 = b := by omega
      show zI S2 (2, i / 8, i % 8) 0 = mBm M t b i2 i3 iw ih i5 9 i
      rw [e1, e2, I2, mBm_9, if_pos e]
      rfl
    · refine old 9 i ⟨hi.1, ?_⟩ (by rw [mBm_9, if_neg e]) (show ¬ pBm t b (2, i / 8, i % 8) from (by unfold pBm; simp only [Prod.mk.injEq]; omega))
      by_cases e1 : i / 8 = t
      · rw [if_pos e1] at hi
        rw [e1]
        omega
      · rw [if_neg e1] at hi
        exact hi.2
  | 10, hd =>
    have hi : i / 8 < nT (mBm M t b i2 i3 iw ih i5) ∧ i % 8 < nB (mBm M t b i2 i3 iw ih i5) (i / 8) := hd
    rw [eT, eB] at hi
    by_cases e : i = 8 * t + b
    · have e1 : i / 8 = t := by omega
      have e2 : i % 8 = b := by omega
      show zI S2 (2, i / 8, i % 8) 1 = mBm M t b i2 i3 iw ih i5 10 i
      rw [e1, e2, I2, mBm_10, if_pos e]
      rfl
    · refine old 10 i ⟨hi.1, ?_⟩ (by rw [mBm_10, if_neg e]) (show ¬ pBm t b (2, i / 8, i % 8) from (by unfold pBm; simp only [Prod.mk.injEq]; omega))
      by_cases e1 : i / 8 = t
      · rw [if_pos e1] at hi
        rw [e1]
        omega
      · rw [if_neg e1] at hi
        exact hi.2
  | 11, hd =>
    have hi : i / 8 < nT (mBm M t b i2 i3 iw ih i5) ∧ i % 8 < nB (mBm M t b i2 i3 iw ih i5) (i / 8) := hd
    rw [eT, eB] at hi
    by_cases e : i = 8 * t + b
    · have e1 : i / 8 = t := by omega
      have e2 : i % 8 = b := by omega
      show zI S2 (2, i / 8, i % 8) 2 = mBm M t b i2 i3 iw ih i5 11 i
      rw [e1, e2, I2, mBm_11, if_pos e]
      rfl
    · refine old 11 i ⟨hi.1, ?_⟩ (by rw [mBm_11, if_neg e]) (show ¬ pBm t b (2, i / 8, i % 8) from (by unfold pBm; simp only [Prod.mk.injEq]; omega))
      by_cases e1 : i / 8 = t
      · rw [if_pos e1] at hi
        rw [e1]
        omega
      · rw [if_neg e1] at hi
        exact hi.2
  | 12, hd =>
    have hi : i / 8 < nT (mBm M t b i2 i3 iw ih i5) ∧ i % 8 < nB (mBm M t b i2 i3 iw ih i5) (i / 8) := hd
    rw [eT, eB] at hi
    by_cases e : i = 8 * t + b
    · have e1 : i / 8 = t := by omega
      have e2 : i % 8 = b := by omega
      show zI S2 (2, i / 8, i % 8) 3 = mBm M t b i2 i3 iw ih i5 12 i
      rw [e1, e2, I2, mBm_12, if_pos e]
      rfl
    · refine old 12 i ⟨hi.1, ?_⟩ (by rw [mBm_12, if_neg e]) (show ¬ pBm t b (2, i / 8, i % 8) from (by unfold pBm; simp only [Prod.mk.injEq]; omega))
      by_cases e1 : i / 8 = t
      · rw [if_pos e1] at hi
        rw [e1]
        omega
      · rw [if_neg e1] at hi
        exact hi.2
  | 13, hd =>
    have hi : i / 8 < nT (mBm M t b i2 i3 iw ih i5) ∧ i % 8 < nB (mBm M t b i2 i3 iw ih i5) (i / 8) := hd
    rw [eT, eB] at hi
    by_cases e : i = 8 * t + b
    · have e1 : i / 8 = t := by omega
      have e2 : i % 8 = b := by omega
      show zI S2 (2, i / 8, i % 8) 4 = mBm M t b i2 i3 iw ih i5 13 i
      rw [e1, e2, I2, mBm_13, if_pos e]
      rfl
    · refine old 13 i ⟨hi.1, ?_⟩ (by rw [mBm_13, if_neg e]) (show ¬ pBm t b (2, i / 8, i % 8) from (by unfold pBm; simp only [Prod.mk.injEq]; omega))
      by_cases e1 : i / 8 = t
      · rw [if_pos e1] at hi
        rw [e1]
        omega
      · rw [if_neg e1] at hi
        exact hi.2
  | 14, hd => exact old 14 i (by have hd : i / 8 < nT (mBm M t b i2 i3 iw ih i5) := hd; rw [eT] at hd; exact hd) (congrFun (m 14 (by omega)) i) (show ¬ pBm t b (12, 0, i / 8) from (by unfold pBm; simp only [Prod.mk.injEq]; omega))
  | 15, hd =>
    have hi : i / 8 < nT (mBm M t b i2 i3 iw ih i5) ∧ i % 8 < nB (mBm M t b i2 i3 iw ih i5) (i / 8) := hd
    rw [eT, eB] at hi
    by_cases e : i = 8 * t + b
    · have e1 : i / 8 = t := by omega
      have e2 : i % 8 = b := by omega
      show zI S2 (2, i / 8, i % 8) 5 = mBm M t b i2 i3 iw ih i5 15 i
      rw [e1, e2, I2, m 15 (by omega), e, ((w6 t b (by omega) h8).2 (by omega)).2]
      rfl
    · refine old 15 i ⟨hi.1, ?_⟩ (by rw [m 15 (by omega)]) (show ¬ pBm t b (2, i / 8, i % 8) from (by unfold pBm; simp only [Prod.mk.injEq]; omega))
      by_cases e1 : i / 8 = t
      · rw [if_pos e1] at hi
        rw [e1]
        omega
      · rw [if_neg e1] at hi
        exact hi.2
  | 16, hd =>
    have hi : i / 8 < nT (mBm M t b i2 i3 iw ih i5) ∧ i % 8 < nB (mBm M t b i2 i3 iw ih i5) (i / 8) := hd
    rw [eT, eB] at hi
    by_cases e : i = 8 * t + b
    · have e1 : i / 8 = t := by omega
      have e2 : i % 8 = b := by omega
      show zI S2 (2, i / 8, i % 8) 6 = mBm M t b i2 i3 iw ih i5 16 i
      rw [e1, e2, I2, m 16 (by omega), e, ((w6 t b (by omega) h8).2 (by omega)).1]
      rfl
    · refine old 16 i ⟨hi.1, ?_⟩ (by rw [m 16 (by omega)]) (show ¬ pBm t b (2, i / 8, i % 8) from (by unfold pBm; simp only [Prod.mk.injEq]; omega))
      by_cases e1 : i / 8 = t
      · rw [if_pos e1] at hi
        rw [e1]
        omega
      · rw [if_neg e1] at hi
        exact hi.2
  | 17, hd => exact old 17 i (by have hd : i / 4 < nT (mBm M t b i2 i3 iw ih i5) := hd; rw [eT] at hd; exact hd) (congrFun (m 17 (by omega)) i) (show ¬ pBm t b (13, 0, i / 4) from (by unfold pBm; simp only [Prod.mk.injEq]; omega))
  | 18, hd => exact old 18 i (by have hd : i / 4 < nT (mBm M t b i2 i3 iw ih i5) ∧ mBm M t b i2 i3 iw ih i5 17 i ≠ -1 := hd; rw [eT, m 17 (by omega)] at hd; exact hd) (congrFun (m 18 (by omega)) i) (show ¬ pBm t b (13, 0, i / 4) from (by unfold pBm; simp only [Prod.mk.injEq]; omega))
  | 19, hd => exact old 19 i (by have hd : i / 4 < nT (mBm M t b i2 i3 iw ih i5) ∧ mBm M t b i2 i3 iw ih i5 17 i ≠ -1 := hd; rw [eT, m 17 (by omega)] at hd; exact hd) (congrFun (m 19 (by omega)) i) (show ¬ pBm t b (13, 0, i / 4) from (by unfold pBm; simp only [Prod.mk.injEq]; omega))
  | 20, hd => exact old 20 i (by have hd : i / 4 < nT (mBm M t b i2 i3 iw ih i5) ∧ mBm M t b i2 i3 iw ih i5 17 i ≠ -1 := hd; rw [eT, m 17 (by omega)] at hd; exact hd) (congrFun (m 20 (by omega)) i) (show ¬ pBm t b (13, 0, i / 4) from (by unfold pBm; simp only [Prod.mk.injEq]; omega))
  | 21, hd => exact old 21 i (by have hd : i / 4 < nT (mBm M t b i2 i3 iw ih i5) ∧ mBm M t b i2 i3 iw ih i5 17 i ≠ -1 := hd; rw [eT, m 17 (by omega)] at hd; exact hd) (congrFun (m 21 (by omega)) i) (show ¬ pBm t b (13, 0, i / 4) from (by unfold pBm; simp only [Prod.mk.injEq]; omega))
  | 22, hd => exact old 22 i (show dom M 22 i from (show i = 0 from hd)) (congrFun (m 22 (by omega)) i) (show ¬ pBm t b (10, 0, 0) from (by unfold pBm; simp only [Prod.mk.injEq]; omega))
  | 23, hd => exact old 23 i (show dom M 23 i from (show i < 60 from hd)) (congrFun (m 23 (by omega)) i) (show ¬ pBm t b (21, 0, 0) from (by unfold pBm; simp only [Prod.mk.injEq]; omega))
  | 24, hd => exact old 24 i (show dom M 24 i from (show i = 0 from hd)) (congrFun (m 24 (by omega)) i) (show ¬ pBm t b (0, 1, 0) from (by unfold pBm; simp only [Prod.mk.injEq]; omega))
  | 25, hd => exact old 25 i (by have hd : i < nG (mBm M t b i2 i3 iw ih i5) := hd; rw [eG] at hd; exact hd) (congrFun (m 25 (by omega)) i) (show ¬ pBm t b (3, i, 0) from (by unfold pBm; simp only [Prod.mk.injEq]; omega))
  | 26, hd => exact old 26 i (by have hd : i < nG (mBm M t b i2 i3 iw ih i5) := hd; rw [eG] at hd; exact hd) (congrFun (m 26 (by omega)) i) (show ¬ pBm t b (3, i, 0) from (by unfold pBm; simp only [Prod.mk.injEq]; omega))
  | 27, hd => exact old 27 i (by have hd : i < nG (mBm M t b i2 i3 iw ih i5) := hd; rw [eG] at hd; exact hd) (congrFun (m 27 (by omega)) i) (show ¬ pBm t b (6, 0, i) from (by unfold pBm; simp only [Prod.mk.injEq]; omega))
  | 28, hd => exact old 28 i (by have hd : i / 8 < nG (mBm M t b i2 i3 iw ih i5) := hd; rw [eG] at hd; exact hd) (congrFun (m 28 (by omega)) i) (show ¬ pBm t b (12, 1, i / 8) from (by unfold pBm; simp only [Prod.mk.injEq]; omega))
  | 29, hd => exact old 29 i (by have hd : i / 4 < nG (mBm M t b i2 i3 iw ih i5) := hd; rw [eG] at hd; exact hd) (congrFun (m 29 (by omega)) i) (show ¬ pBm t b (13, 1, i / 4) from (by unfold pBm; simp only [Prod.mk.injEq]; omega))
  | 30, hd => exact old 30 i (by have hd : i / 4 < nG (mBm M t b i2 i3 iw ih i5) ∧ mBm M t b i2 i3 iw ih i5 29 i ≠ -1 := hd; rw [eG, m 29 (by omega)] at hd; exact hd) (congrFun (m 30 (by omega)) i) (show ¬ pBm t b (13, 1, i / 4) from (by unfold pBm; simp only [Prod.mk.injEq]; omega))
  | 31, hd => exact old 31 i (by have hd : i / 4 < nG (mBm M t b i2 i3 iw ih i5) ∧ mBm M t b i2 i3 iw ih i5 29 i ≠ -1 := hd; rw [eG, m 29 (by omega)] at hd; exact hd) (congrFun (m 31 (by omega)) i) (show ¬ pBm t b (13, 1, i / 4) from (by unfold pBm; simp only [Prod.mk.injEq]; omega))
  | 32, hd => exact old 32 i (by have hd : i / 4 < nG (mBm M t b i2 i3 iw ih i5) ∧ mBm M t b i2 i3 iw ih i5 29 i ≠ -1 := hd; rw [eG, m 29 (by omega)] at hd; exact hd) (congrFun (m 32 (by omega)) i) (show ¬ pBm t b (13, 1, i / 4) from (by unfold pBm; simp only [Prod.mk.injEq]; omega))
  | 33, hd => exact old 33 i (by have hd : i / 4 < nG (mBm M t b i2 i3 iw ih i5) ∧ mBm M t b i2 i3 iw ih i5 29 i ≠ -1 := hd; rw [eG, m 29 (by omega)] at hd; exact hd) (congrFun (m 33 (by omega)) i) (show ¬ pBm t b (13, 1, i / 4) from (by unfold pBm; simp only [Prod.mk.injEq]; omega))
  | 34, hd => exact old 34 i (by have hd : i < nG (mBm M t b i2 i3 iw ih i5) := hd; rw [eG] at hd; exact hd) (congrFun (m 34 (by omega)) i) (show ¬ pBm t b (6, 0, i) from (by unfold pBm; simp only [Prod.mk.injEq]; omega))
  | 35, hd => exact old 35 i (by have hd : i / 3 < nG (mBm M t b i2 i3 iw ih i5) ∧ i % 3 < nD (mBm M t b i2 i3 iw ih i5) (i / 3) := hd; rw [eG, eD] at hd; exact hd) (congrFun (m 35 (by omega)) i) (show ¬ pBm t b (14, 0, i / 3) from (by unfold pBm; simp only [Prod.mk.injEq]; omega))
  | 36, hd => exact old 36 i (by have hd : i / 3 < nG (mBm M t b i2 i3 iw ih i5) ∧ i % 3 < nD (mBm M t b i2 i3 iw ih i5) (i / 3) := hd; rw [eG, eD] at hd; exact hd) (congrFun (m 36 (by omega)) i) (show ¬ pBm t b (15, 0, i / 3) from (by unfold pBm; simp only [Prod.mk.injEq]; omega))
  | 37, hd => exact hd.elim
  | 38, hd => exact hd.elim
  | 39, hd => exact hd.elim
  | 40, hd => exact hd.elim
  | 41, hd => exact hd.elim
  | 42, hd => exact hd.elim
  | 43, hd => exact hd.elim
  | 44, hd => exact hd.elim
  | 45, hd => exact hd.elim
  | 46, hd => exact hd.elim
  | 47, hd => exact hd.elim
  | 48, hd => exact hd.elim
  | 49, hd => exact old 49 i (show dom M 49 i from (show i < 2 from hd)) (congrFun (m 49 (by omega)) i) (show ¬ pBm t b (9, i, 0) from (by unfold pBm; simp only [Prod.mk.injEq]; omega))
  | 50, hd => exact old 50 i (show dom M 50 i from (show i < 4 from hd)) (congrFun (m 50 (by omega)) i) (show ¬ pBm t b (20, i / 2, 0) from (by unfold pBm; simp only [Prod.mk.injEq]; omega))
  | n + 51, hd => exact hd.elim
theorem bm_nv (h : Tie S M) (ht : t < nT M) (hb : b = nB M t) (h8 : b < 8) {i2 i3 iw ih i5 : Int32} (F : fY S S2 (pBm t b)) (l2 : zLs S2 (t + 2) (b + 1)) : NV S2 (mBm M t b i2 i3 iw ih i5) := by
  have hT6 := nT6 h.1
  obtain ⟨eT, eB, eG, eS, eD, eL⟩ := bm_n (M := M) (t := t) (i2 := i2) (i3 := i3) (iw := iw) (ih := ih) (i5 := i5) h8
  obtain ⟨n1, n2, n3, n4, n5, n6, n7, n8, n9, n10, n11⟩ := h.2.2.1
  have V2 : ∀ c : zId, ¬ pBm t b c → zV S2 c = zV S c := fun c hc => (F c hc).2.2.1
  refine ⟨?_, ?_, ?_, ?_, fun u hu => ?_, fun u hu => ?_, fun u k hu hk => ?_, fun g hg => ?_, fun n hn => ?_, fun u j n hu hq => ?_, fun g j n hg hq => ?_⟩
  · rw [V2 (10, 0, 0) (by unfold pBm; simp only [Prod.mk.injEq]; omega)]; exact n1
  · rw [V2 (1, 0, 0) (by unfold pBm; simp only [Prod.mk.injEq]; omega)]; exact n2
  · rw [eT]; exact fY_ls F (by unfold pBm; simp only [Prod.mk.injEq]; omega) (fun g => (by unfold pBm; simp only [Prod.mk.injEq]; omega)) n3
  · rw [eG]; exact fY_ls F (by unfold pBm; simp only [Prod.mk.injEq]; omega) (fun g => (by unfold pBm; simp only [Prod.mk.injEq]; omega)) n4
  · rw [eT] at hu
    rw [eB]
    by_cases e : u = t
    · rw [if_pos e, e]; exact l2
    · rw [if_neg e]; exact fY_ls F (by unfold pBm; simp only [Prod.mk.injEq]; omega) (fun g => (by unfold pBm; simp only [Prod.mk.injEq]; omega)) (n5 u hu)
  · rw [eT] at hu
    obtain ⟨q8, q0, q7, q12, q13, q23⟩ := n6 u hu
    refine ⟨?_, ?_, ?_, ?_, ?_, fun g => ?_⟩
    · rw [V2 (8, u, 0) (by unfold pBm; simp only [Prod.mk.injEq]; omega)]; exact q8
    · rw [V2 (0, u + 2, 0) (by unfold pBm; simp only [Prod.mk.injEq]; omega)]; exact q0
    · rw [V2 (7, 0, u) (by unfold pBm; simp only [Prod.mk.injEq]; omega)]; exact q7
    · rw [V2 (12, 0, u) (by unfold pBm; simp only [Prod.mk.injEq]; omega)]; exact q12
    · rw [V2 (13, 0, u) (by unfold pBm; simp only [Prod.mk.injEq]; omega)]; exact q13
    · rw [V2 (23, u + 2, g) (by unfold pBm; simp only [Prod.mk.injEq]; omega)]; exact q23 g
  · rw [eB] at hk
    by_cases e : u = t
    · rw [if_pos e] at hk
      rw [V2 (2, u, k) (by unfold pBm; simp only [Prod.mk.injEq]; omega)]
      exact n7 u k hu (by rw [e]; omega)
    · rw [if_neg e] at hk
      rw [V2 (2, u, k) (by unfold pBm; simp only [Prod.mk.injEq]; omega)]
      exact n7 u k hu hk
  · rw [eG] at hg
    obtain ⟨q3, q7, q12, q13, q6, q14, q15, q16⟩ := n8 g hg
    refine ⟨?_, ?_, ?_, ?_, ?_, ?_, ?_, ?_⟩
    · rw [V2 (3, g, 0) (by unfold pBm; simp only [Prod.mk.injEq]; omega)]; exact q3
    · rw [V2 (7, 1, g) (by unfold pBm; simp only [Prod.mk.injEq]; omega)]; exact q7
    · rw [V2 (12, 1, g) (by unfold pBm; simp only [Prod.mk.injEq]; omega)]; exact q12
    · rw [V2 (13, 1, g) (by unfold pBm; simp only [Prod.mk.injEq]; omega)]; exact q13
    · rw [V2 (6, 0, g) (by unfold pBm; simp only [Prod.mk.injEq]; omega)]; exact q6
    · rw [V2 (14, 0, g) (by unfold pBm; simp only [Prod.mk.injEq]; omega)]; exact q14
    · rw [V2 (15, 0, g) (by unfold pBm; simp only [Prod.mk.injEq]; omega)]; exact q15
    · rw [V2 (16, g, 0) (by unfold pBm; simp only [Prod.mk.injEq]; omega)]; exact q16
  · rw [(F (10, 0, 0) (by unfold pBm; simp only [Prod.mk.injEq]; omega)).2.1] at hn
    rw [V2 (4, n, 0) (by unfold pBm; simp only [Prod.mk.injEq]; omega)]
    exact n9 n hn
  · rw [eT] at hu
    rw [(F (10, 0, 0) (by unfold pBm; simp only [Prod.mk.injEq]; omega)).2.1]
    rw [(F (13, 0, u) (by unfold pBm; simp only [Prod.mk.injEq]; omega)).2.2.2.2 rfl] at hq
    exact n10 u j n hu hq
  · rw [eG] at hg
    rw [(F (10, 0, 0) (by unfold pBm; simp only [Prod.mk.injEq]; omega)).2.1]
    rw [(F (13, 1, g) (by unfold pBm; simp only [Prod.mk.injEq]; omega)).2.2.2.2 rfl] at hq
    exact n11 g j n hg hq
theorem bmp (h : Tie S M) (ht : t < nT M) (hb : b = nB M t) (h8 : b < 8) {i2 i3 iw ih i5 : Int32} (r2 : inR i2 0 159) (r3 : inR i3 0 239) (rw1 : inR iw 1 60) (rh : inR ih 1 60) (r5 : inR i5 0 20) :
    ∃ S1 S2, fX1_init S t b i2 i3 iw ih i5 = some S1 ∧ fJ_add S1 (t + 2) b = some S2 ∧ zLs S2 (t + 2) (b + 1) ∧ Tie S2 (mBm M t b i2 i3 iw ih i5) := by
  have hT6 := nT6 h.1
  obtain ⟨n1, n2, n3, n4, n5, n6, n7, n8, n9, n10, n11⟩ := h.2.2.1
  have f2 : zV S (2, t, b) = false := n7 t b (by omega) (by omega)
  have x1 : eqX S (nw S (2, t, b) (fun k => ([i2, i3, iw, ih, i5, (0 : Int32), (-1 : Int32)] : List Int32).getD k 0) (fun _ => 0) (fun _ => none) (fun _ => 0)) (fun d => d = (2, t, b)) := eqX_nw _ _ _ _ _ _
  have e1 : fX1_init S t b i2 i3 iw ih i5 = some (nw S (2, t, b) (fun k => ([i2, i3, iw, ih, i5, (0 : Int32), (-1 : Int32)] : List Int32).getD k 0) (fun _ => 0) (fun _ => none) (fun _ => 0)) := by
    unfold fX1_init
    rw [gd_t f2, st_s]
  have v1 : zI (nw S (2, t, b) (fun k => ([i2, i3, iw, ih, i5, (0 : Int32), (-1 : Int32)] : List Int32).getD k 0) (fun _ => 0) (fun _ => none) (fun _ => 0)) (2, t, b) = (fun k => ([i2, i3, iw, ih, i5, (0 : Int32), (-1 : Int32)] : List Int32).getD k 0) := by
    rw [zI_nw, if_pos rfl]
  have v2 : zV (nw S (2, t, b) (fun k => ([i2, i3, iw, ih, i5, (0 : Int32), (-1 : Int32)] : List Int32).getD k 0) (fun _ => 0) (fun _ => none) (fun _ => 0)) (2, t, b) = true := zV_nws _ _ _ _ _ _
  generalize nw S (2, t, b) (fun k => ([i2, i3, iw, ih, i5, (0 : Int32), (-1 : Int32)] : List Int32).getD k 0) (fun _ => 0) (fun _ => none) (fun _ => 0) = S1 at *
  have l1 : zLs S1 (t + 2) b := by
    rw [hb]
    exact eqX_ls x1 (kne (show (0 : Nat) ≠ 2 by decide)) (fun g => kne (show (23 : Nat) ≠ 2 by decide)) (n5 t ht)
  obtain ⟨S2, e2, l2, xB⟩ := add_eq (S := S1) (i := t + 2) (j := b) l1 (by omega) v2
  have F : fY S S2 (pBm t b) := fY_m (fY_t (fY_X x1) (fY_B xB)) (fun c q => q)
  have I2 : zI S2 (2, t, b) = (fun k => ([i2, i3, iw, ih, i5, (0 : Int32), (-1 : Int32)] : List Int32).getD k 0) := by
    rw [(xB.1 (2, t, b) (show (2 : Nat) ≠ 0 by decide) (show (2 : Nat) ≠ 23 by decide)).1, v1]
  refine ⟨S1, S2, e1, e2, l2, bm_wm h.1 ht hb h8 r2 r3 rw1 rh r5, bm_ag h ht hb h8 F I2 l2, bm_nv h ht hb h8 F l2, fun g hg => ?_⟩
  obtain ⟨eT, eB, eG, eS, eD, eL⟩ := bm_n (M := M) (t := t) (i2 := i2) (i3 := i3) (iw := iw) (ih := ih) (i5 := i5) h8
  rw [eG] at hg
  exact lg_fY h.2.2.2 F hg (by unfold pBm; simp only [Prod.mk.injEq]; omega) (by unfold pBm; simp only [Prod.mk.injEq]; omega) (ents_eq2 (eL g) (mBm_o 37 (by omega)) (mBm_o 38 (by omega)) (mBm_o 39 (by omega)))
/-- all the arguments are in their ranges -/
def arBm (i2 i3 i4 i5 : Int32) : Prop := inR i2 0 159 ∧ inR i3 0 239 ∧ inR (i4 / 100) 1 60 ∧ inR (i4 - i4 / 100 * 100) 1 60 ∧ inR i5 0 20
theorem size_in {i4 : Int32} (h1 : inR (i4 / 100) 1 60) (h2 : inR (i4 - i4 / 100 * 100) 1 60) : inR i4 101 6060 := by
  obtain ⟨aw, awa, awb, ew⟩ := inR_of h1 (m := 1) (n := 60) (by decide) (by decide) (by decide) (by decide)
  obtain ⟨ah1, aha, ahb, eh⟩ := inR_of h2 (m := 1) (n := 60) (by decide) (by decide) (by decide) (by decide)
  have e : i4 = nI (ah1 + aw * 100) := by
    have e1 : i4 = (i4 - i4 / 100 * 100) + i4 / 100 * 100 := (Int32.sub_add_cancel _ _).symm
    rw [eh, ew, c100I, pk_mul, nI_add] at e1
    exact e1
  rw [e]
  refine ⟨?_, ?_⟩
  · rw [show (101 : Int32) = nI 101 by decide]; exact nI_le (by omega) (by omega)
  · rw [show (6060 : Int32) = nI 6060 by decide]; exact nI_le (by omega) (by omega)
theorem bm10_in {i1 i2 i3 i4 i5 : Int32} (h : arBm i2 i3 i4 i5) : fX10_addBumper M i1 i2 i3 i4 i5 = tailBm M i1 i2 i3 i4 i5 1 := by
  obtain ⟨h2, h3, hw, hh, h5⟩ := h
  have hz := size_in hw hh
  have : fX10_addBumper M i1 i2 i3 i4 i5 = (cl (fX10_in M i2 (0 : Int32) (159 : Int32)) fun r1 => st (fun y4 => tailBm M i1 i2 i3 i4 i5 y4) fun j6 => st (fun (_ : Unit) => j6 0) fun j35 => if r1 = 0 then j35 () else cl (fX10_in M i3 (0 : Int32) (239 : Int32)) fun r36 => if r36 = 0 then j35 () else cl (fX10_in M i4 (101 : Int32) (6060 : Int32)) fun r39 => if r39 = 0 then j35 () else cl (fX10_in M (i4 / (100 : Int32)) (1 : Int32) (60 : Int32)) fun r42 => if r42 = 0 then j35 () else cl (fX10_in M (i4 - i4 / (100 : Int32) * (100 : Int32)) (1 : Int32) (60 : Int32)) fun r45 => if r45 = 0 then j35 () else cl (fX10_in M i5 (0 : Int32) (20 : Int32)) fun r48 => if r48 = 0 then j35 () else j6 1) := rfl
  rw [this]
  simp only [in_in h2, in_in h3, in_in hz, in_in hw, in_in hh, in_in h5, cl_q, st_q, i10, if_false]
theorem bm10_out {i1 i2 i3 i4 i5 : Int32} (h : ¬ arBm i2 i3 i4 i5) : fX10_addBumper M i1 i2 i3 i4 i5 = tailBm M i1 i2 i3 i4 i5 0 := by
  have : fX10_addBumper M i1 i2 i3 i4 i5 = (cl (fX10_in M i2 (0 : Int32) (159 : Int32)) fun r1 => st (fun y4 => tailBm M i1 i2 i3 i4 i5 y4) fun j6 => st (fun (_ : Unit) => j6 0) fun j35 => if r1 = 0 then j35 () else cl (fX10_in M i3 (0 : Int32) (239 : Int32)) fun r36 => if r36 = 0 then j35 () else cl (fX10_in M i4 (101 : Int32) (6060 : Int32)) fun r39 => if r39 = 0 then j35 () else cl (fX10_in M (i4 / (100 : Int32)) (1 : Int32) (60 : Int32)) fun r42 => if r42 = 0 then j35 () else cl (fX10_in M (i4 - i4 / (100 : Int32) * (100 : Int32)) (1 : Int32) (60 : Int32)) fun r45 => if r45 = 0 then j35 () else cl (fX10_in M i5 (0 : Int32) (20 : Int32)) fun r48 => if r48 = 0 then j35 () else j6 1) := rfl
  rw [this]
  by_cases h2 : inR i2 0 159
  · by_cases h3 : inR i3 0 239
    · by_cases hz : inR i4 101 6060
      · by_cases hw : inR (i4 / 100) 1 60
        · by_cases hh : inR (i4 - i4 / 100 * 100) 1 60
          · by_cases h5 : inR i5 0 20
            · exact absurd ⟨h2, h3, hw, hh, h5⟩ h
            · simp only [in_in h2, in_in h3, in_in hz, in_in hw, in_in hh, in_out h5, cl_q, st_q, i10, if_false, if_true]
          · simp only [in_in h2, in_in h3, in_in hz, in_in hw, in_out hh, cl_q, st_q, i10, if_false, if_true]
        · simp only [in_in h2, in_in h3, in_in hz, in_out hw, cl_q, st_q, i10, if_false, if_true]
      · simp only [in_in h2, in_in h3, in_out hz, cl_q, st_q, i10, if_false, if_true]
    · simp only [in_in h2, in_out h3, cl_q, st_q, i10, if_false, if_true]
  · simp only [in_out h2, cl_q, st_q, if_true]
theorem bm9_out {i2 i3 i4 i5 : Int32} (h : Tie S M) (ht : t < nT M) (ha : ¬ arBm i2 i3 i4 i5) : fX9_addBumper S (nI t) i2 i3 i4 i5 = some (.inl (2, S)) := by
  unfold fX9_addBumper
  rw [dT_in h ht, cx_r]
  by_cases h2 : inR i2 0 159
  · rw [dR_in h2, cx_r]
    by_cases h3 : inR i3 0 239
    · rw [dR_in h3, cx_r]
      by_cases hw : inR (i4 / 100) 1 60
      · rw [dR_in hw, cx_r]
        by_cases hh : inR (i4 - i4 / 100 * 100) 1 60
        · rw [dR_in hh, cx_r]
          by_cases h5 : inR i5 0 20
          · exact absurd ⟨h2, h3, hw, hh, h5⟩ ha
          · rw [dR_out h5, cx_l]
        · rw [dR_out hh, cx_l]
      · rw [dR_out hw, cx_l]
    · rw [dR_out h3, cx_l]
  · rw [dR_out h2, cx_l]
theorem isFree_eq (M : zMs) {t : Nat} (ht : t < 6) : fX10_isFree M (nI t) = some (if M 7 t = -1 then 1 else 0) := by
  unfold fX10_isFree
  have ct : (nI t).toNatClampNeg = t := nI_clamp (by omega)
  have g6 : ¬ 6 ≤ t := by omega
  by_cases h1 : M 7 t = -1
  · simp only [ct, nI_pos (show t < 2 ^ 31 by omega), false_or, g6, not_false_eq_true, gd_T, h1, if_true]
  · simp only [ct, nI_pos (show t < 2 ^ 31 by omega), false_or, g6, not_false_eq_true, gd_T, h1, if_false]
theorem ok_addBumper (S : zSt) (M : zMs) (i1 i2 i3 i4 i5 : Int32) (h : Tie S M) : zOk Tie [1, 2, 3] (fun y : (Int32 × zSt) => (y.1).toInt64) (fun y : (Int32 × zSt) => y.2) (fX9_addBumper S i1 i2 i3 i4 i5) (fun b : Int32 => b.toInt64) (fX10_addBumper M i1 i2 i3 i4 i5) := by
  have h6 := nT6 h.1
  rcases ixc i1 (nT M) (by omega) with hi | ⟨t, ht, rfl⟩
  · refine thr h (n := 1) (w := 1) (b := 0) (by simp) (by decide) ?_ ?_
    · unfold fX9_addBumper; rw [dT_out h hi, cx_l]
    · by_cases ha : arBm i2 i3 i4 i5
      · rw [bm10_in ha]
        unfold tailBm
        simp only [isTable_out h.1 hi, cl_q, st_q, if_true, refused_n M i10, cl2_q, i10, if_false]
      · rw [bm10_out ha]
        unfold tailBm
        simp only [isTable_out h.1 hi, cl_q, st_q, if_true, refused_n M i10, cl2_q, i10, if_false]
  · by_cases ha : arBm i2 i3 i4 i5
    · have z7 : zI S (8, t, 0) 4 = M 7 t := ag h 7 t ht
      have hB := nB8 h.1 (t := t) (by omega)
      have g6 : ¬ 6 ≤ t := by omega
      have ct : (nI t).toNatClampNeg = t := nI_clamp (by omega)
      by_cases hf : M 7 t = -1
      · by_cases h8 : nB M t < 8
        · obtain ⟨r2, r3, rw1, rh, r5⟩ := ha
          obtain ⟨S1, S2, e1, e2, l2, t2⟩ := bmp h ht rfl h8 r2 r3 rw1 rh r5
          refine Or.inl ⟨(nI (nB M t), S2), nI (nB M t), _, ?_, ?_, rfl, rfl, t2⟩
          · have hs : zI S (0, t + 2, 0) 2 = nI (nB M t) := (lsT h ht).1
            unfold fX9_addBumper fX9_demandNoGame
            rw [dT_in h ht, cx_r, dR_in r2, cx_r, dR_in r3, cx_r, dR_in rw1, cx_r, dR_in rh, cx_r, dR_in r5, cx_r, z7, if_pos hf, cx_r, zLs_size (lsT h ht), cl_s, if_pos (by rw [c8I]; exact nI_lt h8 (by omega)), hs, nI_clamp (by omega), st_s, e1, cl_s, e2, cl_s, zLs_size l2, cl_s, nI_pred]
            rfl
          · rw [bm10_in ⟨r2, r3, rw1, rh, r5⟩]
            have n8 : ¬ (8 : Int32) ≤ nI (nB M t) := by rw [c8I]; exact nI_ge h8 (by omega)
            have e8 : (8 : Int32) * nI t + nI (nB M t) = nI (8 * t + nB M t) := ix8 _ _
            have c48 : (nI (8 * t + nB M t)).toNatClampNeg = 8 * t + nB M t := nI_clamp (by omega)
            have g48 : ¬ 48 ≤ 8 * t + nB M t := by omega
            unfold tailBm mBm
            simp (disch := omega) only [isTable_in h.1 ht, cl_q, st_q, i10, if_false, isFree_eq M (show t < 6 by omega), hf, if_true, ct, nI_pos (show t < 2 ^ 31 by omega), false_or, g6, not_false_eq_true, gd_T, nB_e h.1 (show t < 6 by omega), n8, refused_0, cl2_q, pM_s, pMn, e8, c48, g48, nI_pos (show 8 * t + nB M t < 2 ^ 31 by omega), nI_1, nI_pred]
        · have n8 : (8 : Int32) ≤ nI (nB M t) := by rw [c8I]; exact nI_le (by omega) (by omega)
          refine thr h (n := 3) (w := 3) (b := 0) (by simp) (by decide) ?_ ?_
          · obtain ⟨r2, r3, rw1, rh, r5⟩ := ha
            unfold fX9_addBumper fX9_demandNoGame
            rw [dT_in h ht, cx_r, dR_in r2, cx_r, dR_in r3, cx_r, dR_in rw1, cx_r, dR_in rh, cx_r, dR_in r5, cx_r, z7, if_pos hf, cx_r, zLs_size (lsT h ht), cl_s, if_neg (nlt_of n8)]
          · rw [bm10_in ha]
            unfold tailBm
            simp only [isTable_in h.1 ht, cl_q, st_q, i10, if_false, isFree_eq M (show t < 6 by omega), hf, if_true, ct, nI_pos (show t < 2 ^ 31 by omega), false_or, g6, not_false_eq_true, gd_T, nB_e h.1 (show t < 6 by omega), n8, refused_n M i30, cl2_q]
      · refine thr h (n := 3) (w := 3) (b := 0) (by simp) (by decide) ?_ ?_
        · obtain ⟨r2, r3, rw1, rh, r5⟩ := ha
          unfold fX9_addBumper fX9_demandNoGame
          rw [dT_in h ht, cx_r, dR_in r2, cx_r, dR_in r3, cx_r, dR_in rw1, cx_r, dR_in rh, cx_r, dR_in r5, cx_r, z7, if_neg hf, cx_l]
        · rw [bm10_in ha]
          unfold tailBm
          simp only [isTable_in h.1 ht, cl_q, st_q, i10, if_false, isFree_eq M (show t < 6 by omega), hf, if_true, refused_n M i30, cl2_q]
    · refine thr h (n := 2) (w := 2) (b := 0) (by simp) (by decide) (bm9_out h ht ha) ?_
      rw [bm10_out ha]
      unfold tailBm
      simp only [isTable_in h.1 ht, cl_q, st_q, i10, if_false, if_true, refused_n M i20, cl2_q]
end PB2
