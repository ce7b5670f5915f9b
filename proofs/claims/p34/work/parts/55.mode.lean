/-! setMode -/
def tailSm (M : zMs) (i_1 : Int32) (i_2 : Int32) (i_3 : Int32) (i_4 : Int32) (i_5 : Int32) (y4 : Int32) : Option (Int32 × zMs) :=
st y4 fun x7 =>
st (fun (y8 : Int32) => (st y8 fun x11 =>
st (fun (y12 : Int32) => (st y12 fun x15 =>
st (fun (y16 : Int32) => (cl2 (fX10_refused M y16) fun r18 M20 =>
if r18 = 0 then
st (((4 : Int32) * i_1) + i_2) fun x22 =>
gd (¬ (x22 < 0 ∨ 24 ≤ x22.toNatClampNeg)) (
st (fun (y23 : Int32) => (st y23 fun x26 =>
st (fun (y27 : Int32) => (gd (¬ (x22 < 0 ∨ 24 ≤ x22.toNatClampNeg)) (
st (pM M20 17 x22.toNatClampNeg y27) fun M29 =>
st (fun (y30 : Int32) => (gd (¬ (x22 < 0 ∨ 24 ≤ x22.toNatClampNeg)) (
st (pM M29 18 x22.toNatClampNeg y30) fun M32 =>
gd (¬ (x22 < 0 ∨ 24 ≤ x22.toNatClampNeg)) (
st (pM M32 19 x22.toNatClampNeg (i_4 / (100 : Int32))) fun M33 =>
gd (¬ (x22 < 0 ∨ 24 ≤ x22.toNatClampNeg)) (
st (pM M33 20 x22.toNatClampNeg (i_4 - i_4 / (100 : Int32) * (100 : Int32))) fun M34 =>
gd (¬ (x22 < 0 ∨ 24 ≤ x22.toNatClampNeg)) (
st (pM M34 21 x22.toNatClampNeg i_5) fun M35 =>
some ((x26, M35)))))) : Option (Int32 × zMs))) fun j31 =>
if i_3 = (-1 : Int32) then
j31 (0 : Int32)
else
j31 (i_3 - i_3 / (10 : Int32) * (10 : Int32))) : Option (Int32 × zMs))) fun j28 =>
if i_3 = (-1 : Int32) then
j28 (-1 : Int32)
else
j28 (i_3 / (10 : Int32)) : Option (Int32 × zMs))) fun j25 =>
if (M20 17 x22.toNatClampNeg) = (-1 : Int32) then
j25 (0 : Int32)
else
j25 (1 : Int32))
else
some (((0 : Int32), M20)) : Option (Int32 × zMs))) fun j17 =>
if x7 = 0 then
j17 (1 : Int32)
else
if x11 = 0 then
j17 (2 : Int32)
else
if x15 = 0 then
j17 (3 : Int32)
else
j17 (0 : Int32) : Option (Int32 × zMs))) fun j14 =>
st (fun (u_ : Unit) => (j14 (0 : Int32) : Option (Int32 × zMs))) fun j36 =>
if x7 = 0 then
j36 ()
else
if x11 = 0 then
j36 ()
else
cl (fX10_isFree M i_1) fun r37 =>
if r37 = 0 then
j36 ()
else
j14 (1 : Int32) : Option (Int32 × zMs))) fun j10 =>
st (fun (u_ : Unit) => (j10 (0 : Int32) : Option (Int32 × zMs))) fun j40 =>
if i_3 < (-1 : Int32) then
j40 ()
else
if i_4 < 0 then
j40 ()
else
cl (fX10_in M (i_4 / (100 : Int32)) (1 : Int32) (20 : Int32)) fun r41 =>
if r41 = 0 then
j40 ()
else
cl (fX10_in M (i_4 - i_4 / (100 : Int32) * (100 : Int32)) (2 : Int32) (9 : Int32)) fun r44 =>
if r44 = 0 then
j40 ()
else
cl (fX10_in M i_5 (0 : Int32) (5000 : Int32)) fun r47 =>
if r47 = 0 then
j40 ()
else
j10 (1 : Int32)

def tailSn (M : zMs) (i_1 : Int32) (i_2 : Int32) (i_3 : Int32) (i_4 : Int32) (i_5 : Int32) (x7 : Int32) (y8 : Int32) : Option (Int32 × zMs) :=
st y8 fun x11 =>
st (fun (y12 : Int32) => (st y12 fun x15 =>
st (fun (y16 : Int32) => (cl2 (fX10_refused M y16) fun r18 M20 =>
if r18 = 0 then
st (((4 : Int32) * i_1) + i_2) fun x22 =>
gd (¬ (x22 < 0 ∨ 24 ≤ x22.toNatClampNeg)) (
st (fun (y23 : Int32) => (st y23 fun x26 =>
st (fun (y27 : Int32) => (gd (¬ (x22 < 0 ∨ 24 ≤ x22.toNatClampNeg)) (
st (pM M20 17 x22.toNatClampNeg y27) fun M29 =>
st (fun (y30 : Int32) => (gd (¬ (x22 < 0 ∨ 24 ≤ x22.toNatClampNeg)) (
st (pM M29 18 x22.toNatClampNeg y30) fun M32 =>
gd (¬ (x22 < 0 ∨ 24 ≤ x22.toNatClampNeg)) (
st (pM M32 19 x22.toNatClampNeg (i_4 / (100 : Int32))) fun M33 =>
gd (¬ (x22 < 0 ∨ 24 ≤ x22.toNatClampNeg)) (
st (pM M33 20 x22.toNatClampNeg (i_4 - i_4 / (100 : Int32) * (100 : Int32))) fun M34 =>
gd (¬ (x22 < 0 ∨ 24 ≤ x22.toNatClampNeg)) (
st (pM M34 21 x22.toNatClampNeg i_5) fun M35 =>
some ((x26, M35)))))) : Option (Int32 × zMs))) fun j31 =>
if i_3 = (-1 : Int32) then
j31 (0 : Int32)
else
j31 (i_3 - i_3 / (10 : Int32) * (10 : Int32))) : Option (Int32 × zMs))) fun j28 =>
if i_3 = (-1 : Int32) then
j28 (-1 : Int32)
else
j28 (i_3 / (10 : Int32)) : Option (Int32 × zMs))) fun j25 =>
if (M20 17 x22.toNatClampNeg) = (-1 : Int32) then
j25 (0 : Int32)
else
j25 (1 : Int32))
else
some (((0 : Int32), M20)) : Option (Int32 × zMs))) fun j17 =>
if x7 = 0 then
j17 (1 : Int32)
else
if x11 = 0 then
j17 (2 : Int32)
else
if x15 = 0 then
j17 (3 : Int32)
else
j17 (0 : Int32) : Option (Int32 × zMs))) fun j14 =>
st (fun (u_ : Unit) => (j14 (0 : Int32) : Option (Int32 × zMs))) fun j36 =>
if x7 = 0 then
j36 ()
else
if x11 = 0 then
j36 ()
else
cl (fX10_isFree M i_1) fun r37 =>
if r37 = 0 then
j36 ()
else
j14 (1 : Int32)

section PSM
variable {S S1 S2 : zSt} {M M1 : zMs} {t j : Nat}
def mSm (M : zMs) (t j : Nat) (x7 x8 x9 x0 x1 : Int32) : zMs := pM (pM (pM (pM (pM (pM M 0 0 0) 17 (4 * t + j) x7) 18 (4 * t + j) x8) 19 (4 * t + j) x9) 20 (4 * t + j) x0) 21 (4 * t + j) x1
theorem mSm_o {x7 x8 x9 x0 x1 : Int32} (k : Nat) (h : k ≠ 0 ∧ k ≠ 17 ∧ k ≠ 18 ∧ k ≠ 19 ∧ k ≠ 20 ∧ k ≠ 21) : mSm M t j x7 x8 x9 x0 x1 k = M k := by
  unfold mSm
  simp (disch := omega) only [pMn]
theorem mSm_17 {x7 x8 x9 x0 x1 : Int32} (u : Nat) : mSm M t j x7 x8 x9 x0 x1 17 u = if u = 4 * t + j then x7 else M 17 u := by
  unfold mSm
  try simp (disch := omega) only [pMn]
  rw [pM_at]
  by_cases e : u = 4 * t + j
  · rw [if_pos ⟨rfl, e⟩, if_pos e]
  · rw [if_neg (fun q => e q.2), if_neg e]
    simp (disch := omega) only [pMn]
theorem mSm_18 {x7 x8 x9 x0 x1 : Int32} (u : Nat) : mSm M t j x7 x8 x9 x0 x1 18 u = if u = 4 * t + j then x8 else M 18 u := by
  unfold mSm
  try simp (disch := omega) only [pMn]
  rw [pM_at]
  by_cases e : u = 4 * t + j
  · rw [if_pos ⟨rfl, e⟩, if_pos e]
  · rw [if_neg (fun q => e q.2), if_neg e]
    simp (disch := omega) only [pMn]
theorem mSm_19 {x7 x8 x9 x0 x1 : Int32} (u : Nat) : mSm M t j x7 x8 x9 x0 x1 19 u = if u = 4 * t + j then x9 else M 19 u := by
  unfold mSm
  try simp (disch := omega) only [pMn]
  rw [pM_at]
  by_cases e : u = 4 * t + j
  · rw [if_pos ⟨rfl, e⟩, if_pos e]
  · rw [if_neg (fun q => e q.2), if_neg e]
    simp (disch := omega) only [pMn]
theorem mSm_20 {x7 x8 x9 x0 x1 : Int32} (u : Nat) : mSm M t j x7 x8 x9 x0 x1 20 u = if u = 4 * t + j then x0 else M 20 u := by
  unfold mSm
  try simp (disch := omega) only [pMn]
  rw [pM_at]
  by_cases e : u = 4 * t + j
  · rw [if_pos ⟨rfl, e⟩, if_pos e]
  · rw [if_neg (fun q => e q.2), if_neg e]
    simp (disch := omega) only [pMn]
theorem mSm_21 {x7 x8 x9 x0 x1 : Int32} (u : Nat) : mSm M t j x7 x8 x9 x0 x1 21 u = if u = 4 * t + j then x1 else M 21 u := by
  unfold mSm
  try simp (disch := omega) only [pMn]
  rw [pM_at]
  by_cases e : u = 4 * t + j
  · rw [if_pos ⟨rfl, e⟩, if_pos e]
  · rw [if_neg (fun q => e q.2), if_neg e]
    simp (disch := omega) only [pMn]
theorem vMd_pt {c : zId} {j k : Nat} {d : Int32} (hq : zQ S1 c j = zQ S c j) (h4 : ∀ n, zQ S c j = some n → zI S1 (4, n, 0) = zI S (4, n, 0)) : vMd S1 c j k d = vMd S c j k d := by
  unfold vMd
  rw [hq]
  cases h : zQ S c j with
  | none => rfl
  | some n =>
    show (if zI S1 (4, n, 0) k = -1 then -2 else zI S1 (4, n, 0) k) = (if zI S (4, n, 0) k = -1 then (-2 : Int32) else zI S (4, n, 0) k)
    rw [h4 n h]
theorem vMd_v {c : zId} {j k n : Nat} {d x : Int32} {a b : Nat} (hb : b < 2 ^ 31) (hq : zQ S c j = some n) (h : zI S (4, n, 0) k = x) (hx : rng a b x) : vMd S c j k d = x := by
  unfold vMd
  rw [hq]
  show (if zI S (4, n, 0) k = -1 then (-2 : Int32) else zI S (4, n, 0) k) = x
  obtain ⟨m, -, hm, e⟩ := hx
  rw [h, e, if_neg (of_eq_false (nI_m (by omega)))]
theorem zq17 (h : Tie S M) (ht : t < nT M) (hj : j < 4) : zQ S (13, 0, t) j = none ↔ M 17 (4 * t + j) = -1 := by
  have hT6 := nT6 h.1
  obtain ⟨e1, e2⟩ := dm4 (t := t) hj
  have a17 : vMd S (13, 0, t) j 0 (-1) = M 17 (4 * t + j) := by
    rw [← ag h 17 (4 * t + j) (show (4 * t + j) / 4 < nT M by rw [e1]; exact ht)]
    show _ = vMd S (13, 0, (4 * t + j) / 4) ((4 * t + j) % 4) 0 (-1)
    rw [e1, e2]
  constructor
  · intro q
    rw [← a17]
    unfold vMd
    rw [q]
  · intro q
    rw [q] at a17
    cases hq : zQ S (13, 0, t) j with
    | none => rfl
    | some n =>
      exfalso
      unfold vMd at a17
      rw [hq] at a17
      have a17 : (if zI S (4, n, 0) 0 = -1 then (-2 : Int32) else zI S (4, n, 0) 0) = -1 := a17
      by_cases e : zI S (4, n, 0) 0 = -1
      · rw [if_pos e] at a17
        revert a17
        decide
      · rw [if_neg e] at a17; exact e a17
theorem sm_n {x7 x8 x9 x0 x1 : Int32} : nT (mSm M t j x7 x8 x9 x0 x1) = nT M ∧ (∀ u, nB (mSm M t j x7 x8 x9 x0 x1) u = nB M u) ∧ nG (mSm M t j x7 x8 x9 x0 x1) = nG M ∧ nS (mSm M t j x7 x8 x9 x0 x1) = nS M ∧ (∀ g, nD (mSm M t j x7 x8 x9 x0 x1) g = nD M g) ∧ ∀ g, nL (mSm M t j x7 x8 x9 x0 x1) g = nL M g :=
  ⟨by unfold nT; rw [mSm_o 1 (by omega)], fun u => by unfold nB; rw [mSm_o 8 (by omega)], by unfold nG; rw [mSm_o 24 (by omega)], by unfold nS; rw [mSm_o 22 (by omega)], fun g => by unfold nD; rw [mSm_o 34 (by omega)], fun g => by unfold nL; rw [mSm_o 26 (by omega)]⟩
theorem sm_wm (h : WM M) (ht : t < nT M) (hj : j < 4) {x7 x8 x9 x0 x1 : Int32} (hm : mdOk x7 x8 x9 x0 x1) : WM (mSm M t j x7 x8 x9 x0 x1) := by
  obtain ⟨eT, eB, eG, eS, eD, eL⟩ := sm_n (M := M) (t := t) (j := j) (x7 := x7) (x8 := x8) (x9 := x9) (x0 := x0) (x1 := x1)
  obtain ⟨w1, w2, w3, w4, w5, w6, w7, w8, w9, w10, w11, w12⟩ := h
  have m (k : Nat) (hk : k ≠ 0 ∧ k ≠ 17 ∧ k ≠ 18 ∧ k ≠ 19 ∧ k ≠ 20 ∧ k ≠ 21) : mSm M t j x7 x8 x9 x0 x1 k = M k := mSm_o k hk
  unfold WM
  rw [m 1 (by omega), m 24 (by omega), m 22 (by omega), m 8 (by omega), m 4 (by omega), m 5 (by omega), m 6 (by omega), m 2 (by omega), m 7 (by omega), m 25 (by omega), m 9 (by omega), m 10 (by omega), m 11 (by omega), m 12 (by omega), m 13 (by omega), m 16 (by omega), m 15 (by omega), m 14 (by omega), m 27 (by omega), m 34 (by omega), m 49 (by omega), m 50 (by omega), m 23 (by omega), eT, eG, eS]
  refine ⟨w1, w2, w3, w4, fun u hu => ⟨(w5 u hu).1, ?_⟩, fun u k hu hk => ?_, w7, fun u k hu hk => ?_, fun g hg => ⟨fun hn => gm_mono ((w9 g hg).1 hn) (by rw [eT]; exact Nat.le_refl _) (congrFun (m 25 (by omega)) g) (congrFun (m 26 (by omega)) g) (congrFun (m 34 (by omega)) g) (fun k _ => congrFun (m 35 (by omega)) _) (fun k _ => congrFun (m 28 (by omega)) _) (fun k _ => ⟨congrFun (m 29 (by omega)) _, congrFun (m 30 (by omega)) _, congrFun (m 31 (by omega)) _, congrFun (m 32 (by omega)) _, congrFun (m 33 (by omega)) _⟩) (m 37 (by omega)) (m 38 (by omega)) (m 39 (by omega)), (w9 g hg).2⟩, w10, w11, w12⟩
  · rcases (w5 u hu).2 with q | ⟨g, q1, q2, q3, q4⟩
    · exact Or.inl q
    · exact Or.inr ⟨g, q1, q2, q3, by rw [eL]; exact q4⟩
  · rw [eB]; exact w6 u k hu hk
  · rw [mSm_17, mSm_18, mSm_19, mSm_20, mSm_21]
    by_cases e : 4 * u + k = 4 * t + j
    · rw [if_pos e, if_pos e, if_pos e, if_pos e, if_pos e]
      exact ⟨hm, fun hn => absurd hn (by omega)⟩
    · rw [if_neg e, if_neg e, if_neg e, if_neg e, if_neg e]
      exact w8 u k hu hk
/-- the new mode, or none -/
def smO (S1 : zSt) (N : Nat) (ob : Option Nat) (x7 x8 x9 x0 x1 : Int32) : Prop := (ob = none ∧ x7 = -1) ∨ (ob = some N ∧ rng 0 9 x7 ∧ rng 0 9 x8 ∧ rng 1 20 x9 ∧ rng 2 9 x0 ∧ rng 0 5000 x1 ∧ zI S1 (4, N, 0) 0 = x7 ∧ zI S1 (4, N, 0) 1 = x8 ∧ zI S1 (4, N, 0) 2 = x9 ∧ zI S1 (4, N, 0) 3 = x0 ∧ zI S1 (4, N, 0) 4 = x1)
theorem smO_md {N : Nat} {ob : Option Nat} {x7 x8 x9 x0 x1 : Int32} (h : smO S1 N ob x7 x8 x9 x0 x1) : mdOk x7 x8 x9 x0 x1 := by
  rcases h with ⟨-, e⟩ | ⟨-, r1, r2, r3, r4, r5, -⟩
  · exact Or.inl e
  · exact Or.inr ⟨r1, r2, r3, r4, r5⟩
theorem sm_ag (h : Tie S M) (ht : t < nT M) (hj : j < 4) {N : Nat} (hN : zN S (10, 0, 0) 0 = N) {ob : Option Nat} {x7 x8 x9 x0 x1 : Int32} (hX : eqX S S1 (fun c => c = (4, N, 0))) (ho : smO S1 N ob x7 x8 x9 x0 x1) (zi : ∀ c, zI S2 c = zI S1 c) (zq : ∀ c k, zQ S2 c k = if c = (13, 0, t) ∧ k = j then ob else zQ S1 c k) : AG S2 (mSm M t j x7 x8 x9 x0 x1) := by
  have hT6 := nT6 h.1
  obtain ⟨eT, eB, eG, eS, eD, eL⟩ := sm_n (M := M) (t := t) (j := j) (x7 := x7) (x8 := x8) (x9 := x9) (x0 := x0) (x1 := x1)
  have m (k : Nat) (hk : k ≠ 0 ∧ k ≠ 17 ∧ k ≠ 18 ∧ k ≠ 19 ∧ k ≠ 20 ∧ k ≠ 21) : mSm M t j x7 x8 x9 x0 x1 k = M k := mSm_o k hk
  obtain ⟨n1, n2, n3, n4, n5, n6, n7, n8, n9, n10, n11⟩ := h.2.2.1
  have zi0 : ∀ c : zId, c ≠ (4, N, 0) → zI S2 c = zI S c := fun c hc => (zi c).trans (hX c hc).1
  have i4 : ∀ n, n < N → zI S2 (4, n, 0) = zI S (4, n, 0) := fun n hn => zi0 _ (fun e => by have := congrArg (fun z : zId => z.2.1) e; dsimp only at this; omega)
  have zqo : ∀ c k, c.1 = 13 → ¬ (c = (13, 0, t) ∧ k = j) → zQ S2 c k = zQ S c k := fun c k hc hn => by
    rw [zq, if_neg hn, (hX c (fun e => by rw [e] at hc; exact absurd hc (by decide : ¬ (4 : Nat) = 13))).2.2.1]
  have old : ∀ k i, dom M k i → mSm M t j x7 x8 x9 x0 x1 k i = M k i → (rC k i).1 ≠ 4 → (rC k i).1 ≠ 13 → vS S2 k i = mSm M t j x7 x8 x9 x0 x1 k i := by
    intro k i hd hm hp h13
    rw [vS_eq2 k i (zi0 _ (kne hp)) (fun e => absurd e h13) (fun _ _ _ e => absurd e h13), hm]
    exact h.2.1 k i hd
  have md0 : ∀ u k kk d, u < nT M → ¬ (u = t ∧ k = j) → vMd S2 (13, 0, u) k kk d = vMd S (13, 0, u) k kk d := fun u k kk d hu hn =>
    vMd_pt (zqo (13, 0, u) k rfl (fun q => hn ⟨congrArg (fun z : zId => z.2.2) q.1, q.2⟩)) (fun n hq => i4 n (by rw [← hN]; exact n10 u k n hu hq))
  have md1 : ∀ g k kk d, g < nG M → vMd S2 (13, 1, g) k kk d = vMd S (13, 1, g) k kk d := fun g k kk d hg =>
    vMd_pt (zqo (13, 1, g) k rfl (fun q => absurd (congrArg (fun z : zId => z.2.1) q.1) (by decide : ¬ (1 : Nat) = 0))) (fun n hq => i4 n (by rw [← hN]; exact n11 g k n hg hq))
  have new : ∀ kk d x a b, b < 2 ^ 31 → ob = some N → zI S1 (4, N, 0) kk = x → rng a b x → vMd S2 (13, 0, t) j kk d = x := fun kk d x a b hb h1 h2 h3 =>
    vMd_v hb (n := N) (by rw [zq, if_pos ⟨rfl, rfl⟩]; exact h1) (by rw [zi]; exact h2) h3
  intro k i hd
  match k, hd with
  | 0, hd => exact hd.elim
  | 1, hd => exact old 1 i (show dom M 1 i from (show i = 0 from hd)) (congrFun (m 1 (by omega)) i) (show (0 : Nat) ≠ 4 by decide) (show (0 : Nat) ≠ 13 by decide)
  | 2, hd => exact old 2 i (by have hd : i < nT (mSm M t j x7 x8 x9 x0 x1) := hd; rw [eT] at hd; exact hd) (congrFun (m 2 (by omega)) i) (show (8 : Nat) ≠ 4 by decide) (show (8 : Nat) ≠ 13 by decide)
  | 3, hd => exact old 3 i (by have hd : i < nT (mSm M t j x7 x8 x9 x0 x1) := hd; rw [eT] at hd; exact hd) (congrFun (m 3 (by omega)) i) (show (8 : Nat) ≠ 4 by decide) (show (8 : Nat) ≠ 13 by decide)
  | 4, hd => exact old 4 i (by have hd : i < nT (mSm M t j x7 x8 x9 x0 x1) := hd; rw [eT] at hd; exact hd) (congrFun (m 4 (by omega)) i) (show (8 : Nat) ≠ 4 by decide) (show (8 : Nat) ≠ 13 by decide)
  | 5, hd => exact old 5 i (by have hd : i < nT (mSm M t j x7 x8 x9 x0 x1) := hd; rw [eT] at hd; exact hd) (congrFun (m 5 (by omega)) i) (show (8 : Nat) ≠ 4 by decide) (show (8 : Nat) ≠ 13 by decide)
  | 6, hd => exact old 6 i (by have hd : i < nT (mSm M t j x7 x8 x9 x0 x1) := hd; rw [eT] at hd; exact hd) (congrFun (m 6 (by omega)) i) (show (8 : Nat) ≠ 4 by decide) (show (8 : Nat) ≠ 13 by decide)
  | 7, hd => exact old 7 i (by have hd : i < nT (mSm M t j x7 x8 x9 x0 x1) := hd; rw [eT] at hd; exact hd) (congrFun (m 7 (by omega)) i) (show (8 : Nat) ≠ 4 by decide) (show (8 : Nat) ≠ 13 by decide)
  | 8, hd => exact old 8 i (by have hd : i < nT (mSm M t j x7 x8 x9 x0 x1) := hd; rw [eT] at hd; exact hd) (congrFun (m 8 (by omega)) i) (show (0 : Nat) ≠ 4 by decide) (show (0 : Nat) ≠ 13 by decide)
  | 9, hd => exact old 9 i (by have hd : i / 8 < nT (mSm M t j x7 x8 x9 x0 x1) ∧ i % 8 < nB (mSm M t j x7 x8 x9 x0 x1) (i / 8) := hd; rw [eT, eB] at hd; exact hd) (congrFun (m 9 (by omega)) i) (show (2 : Nat) ≠ 4 by decide) (show (2 : Nat) ≠ 13 by decide)
  | 10, hd => exact old 10 i (by have hd : i / 8 < nT (mSm M t j x7 x8 x9 x0 x1) ∧ i % 8 < nB (mSm M t j x7 x8 x9 x0 x1) (i / 8) := hd; rw [eT, eB] at hd; exact hd) (congrFun (m 10 (by omega)) i) (show (2 : Nat) ≠ 4 by decide) (show (2 : Nat) ≠ 13 by decide)
  | 11, hd => exact old 11 i (by have hd : i / 8 < nT (mSm M t j x7 x8 x9 x0 x1) ∧ i % 8 < nB (mSm M t j x7 x8 x9 x0 x1) (i / 8) := hd; rw [eT, eB] at hd; exact hd) (congrFun (m 11 (by omega)) i) (show (2 : Nat) ≠ 4 by decide) (show (2 : Nat) ≠ 13 by decide)
  | 12, hd => exact old 12 i (by have hd : i / 8 < nT (mSm M t j x7 x8 x9 x0 x1) ∧ i % 8 < nB (mSm M t j x7 x8 x9 x0 x1) (i / 8) := hd; rw [eT, eB] at hd; exact hd) (congrFun (m 12 (by omega)) i) (show (2 : Nat) ≠ 4 by decide) (show (2 : Nat) ≠ 13 by decide)
  | 13, hd => exact old 13 i (by have hd : i / 8 < nT (mSm M t j x7 x8 x9 x0 x1) ∧ i % 8 < nB (mSm M t j x7 x8 x9 x0 x1) (i / 8) := hd; rw [eT, eB] at hd; exact hd) (congrFun (m 13 (by omega)) i) (show (2 : Nat) ≠ 4 by decide) (show (2 : Nat) ≠ 13 by decide)
  | 14, hd => exact old 14 i (by have hd : i / 8 < nT (mSm M t j x7 x8 x9 x0 x1) := hd; rw [eT] at hd; exact hd) (congrFun (m 14 (by omega)) i) (show (12 : Nat) ≠ 4 by decide) (show (12 : Nat) ≠ 13 by decide)
  | 15, hd => exact old 15 i (by have hd : i / 8 < nT (mSm M t j x7 x8 x9 x0 x1) ∧ i % 8 < nB (mSm M t j x7 x8 x9 x0 x1) (i / 8) := hd; rw [eT, eB] at hd; exact hd) (congrFun (m 15 (by omega)) i) (show (2 : Nat) ≠ 4 by decide) (show (2 : Nat) ≠ 13 by decide)
  | 16, hd => exact old 16 i (by have hd : i / 8 < nT (mSm M t j x7 x8 x9 x0 x1) ∧ i % 8 < nB (mSm M t j x7 x8 x9 x0 x1) (i / 8) := hd; rw [eT, eB] at hd; exact hd) (congrFun (m 16 (by omega)) i) (show (2 : Nat) ≠ 4 by decide) (show (2 : Nat) ≠ 13 by decide)
  | 17, hd =>
    have hd : i / 4 < nT (mSm M t j x7 x8 x9 x0 x1) := hd
    rw [eT] at hd
    show vMd S2 (13, 0, i / 4) (i % 4) 0 (-1) = mSm M t j x7 x8 x9 x0 x1 17 i
    by_cases e : i = 4 * t + j
    · have e1 : i / 4 = t := by omega
      have e2 : i % 4 = j := by omega
      rw [e1, e2, mSm_17, if_pos e]
      rcases ho with ⟨o1, o2⟩ | ⟨o1, r1, r2, r3, r4, r5, v1, v2, v3, v4, v5⟩
      · unfold vMd
        rw [zq, if_pos ⟨rfl, rfl⟩, o1, o2]
      · exact new 0 (-1) x7 0 9 (by omega) o1 v1 r1
    · rw [mSm_17, if_neg e, md0 _ _ _ _ hd (fun q => e (by omega))]
      exact h.2.1 17 i hd
  | 18, hd =>
    have hd : i / 4 < nT (mSm M t j x7 x8 x9 x0 x1) ∧ mSm M t j x7 x8 x9 x0 x1 17 i ≠ -1 := hd
    rw [eT, mSm_17] at hd
    show vMd S2 (13, 0, i / 4) (i % 4) 1 0 = mSm M t j x7 x8 x9 x0 x1 18 i
    by_cases e : i = 4 * t + j
    · have e1 : i / 4 = t := by omega
      have e2 : i % 4 = j := by omega
      rw [e1, e2, mSm_18, if_pos e]
      rcases ho with ⟨o1, o2⟩ | ⟨o1, r1, r2, r3, r4, r5, v1, v2, v3, v4, v5⟩
      · exact absurd o2 (by have := hd.2; rw [if_pos e] at this; exact this)
      · exact new 1 0 x8 0 9 (by omega) o1 v2 r2
    · rw [if_neg e] at hd
      rw [mSm_18, if_neg e, md0 _ _ _ _ hd.1 (fun q => e (by omega))]
      exact h.2.1 18 i hd
  | 19, hd =>
    have hd : i / 4 < nT (mSm M t j x7 x8 x9 x0 x1) ∧ mSm M t j x7 x8 x9 x0 x1 17 i ≠ -1 := hd
    rw [eT, mSm_17] at hd
    show vMd S2 (13, 0, i / 4) (i % 4) 2 0 = mSm M t j x7 x8 x9 x0 x1 19 i
    by_cases e : i = 4 * t + j
    · have e1 : i / 4 = t := by omega
      have e2 : i % 4 = j := by omega
      rw [e1, e2, mSm_19, if_pos e]
      rcases ho with ⟨o1, o2⟩ | ⟨o1, r1, r2, r3, r4, r5, v1, v2, v3, v4, v5⟩
      · exact absurd o2 (by have := hd.2; rw [if_pos e] at this; exact this)
      · exact new 2 0 x9 1 20 (by omega) o1 v3 r3
    · rw [if_neg e] at hd
      rw [mSm_19, if_neg e, md0 _ _ _ _ hd.1 (fun q => e (by omega))]
      exact h.2.1 19 i hd
  | 20, hd =>
    have hd : i / 4 < nT (mSm M t j x7 x8 x9 x0 x1) ∧ mSm M t j x7 x8 x9 x0 x1 17 i ≠ -1 := hd
    rw [eT, mSm_17] at hd
    show vMd S2 (13, 0, i / 4) (i % 4) 3 0 = mSm M t j x7 x8 x9 x0 x1 20 i
    by_cases e : i = 4 * t + j
    · have e1 : i / 4 = t := by omega
      have e2 : i % 4 = j := by omega
      rw [e1, e2, mSm_20, if_pos e]
      rcases ho with ⟨o1, o2⟩ | ⟨o1, r1, r2, r3, r4, r5, v1, v2, v3, v4, v5⟩
      · exact absurd o2 (by have := hd.2; rw [if_pos e] at this; exact this)
      · exact new 3 0 x0 2 9 (by omega) o1 v4 r4
    · rw [if_neg e] at hd
      rw [mSm_20, if_neg e, md0 _ _ _ _ hd.1 (fun q => e (by omega))]
      exact h.2.1 20 i hd
  | 21, hd =>
    have hd : i / 4 < nT (mSm M t j x7 x8 x9 x0 x1) ∧ mSm M t j x7 x8 x9 x0 x1 17 i ≠ -1 := hd
    rw [eT, mSm_17] at hd
    show vMd S2 (13, 0, i / 4) (i % 4) 4 0 = mSm M t j x7 x8 x9 x0 x1 21 i
    by_cases e : i = 4 * t + j
    · have e1 : i / 4 = t := by omega
      have e2 : i % 4 = j := by omega
      rw [e1, e2, mSm_21, if_pos e]
      rcases ho with ⟨o1, o2⟩ | ⟨o1, r1, r2, r3, r4, r5, v1, v2, v3, v4, v5⟩
      · exact absurd o2 (by have := hd.2; rw [if_pos e] at this; exact this)
      · exact new 4 0 x1 0 5000 (by omega) o1 v5 r5
    · rw [if_neg e] at hd
      rw [mSm_21, if_neg e, md0 _ _ _ _ hd.1 (fun q => e (by omega))]
      exact h.2.1 21 i hd
  | 22, hd => exact old 22 i (show dom M 22 i from (show i = 0 from hd)) (congrFun (m 22 (by omega)) i) (show (10 : Nat) ≠ 4 by decide) (show (10 : Nat) ≠ 13 by decide)
  | 23, hd => exact old 23 i (show dom M 23 i from (show i < 60 from hd)) (congrFun (m 23 (by omega)) i) (show (21 : Nat) ≠ 4 by decide) (show (21 : Nat) ≠ 13 by decide)
  | 24, hd => exact old 24 i (show dom M 24 i from (show i = 0 from hd)) (congrFun (m 24 (by omega)) i) (show (0 : Nat) ≠ 4 by decide) (show (0 : Nat) ≠ 13 by decide)
  | 25, hd => exact old 25 i (by have hd : i < nG (mSm M t j x7 x8 x9 x0 x1) := hd; rw [eG] at hd; exact hd) (congrFun (m 25 (by omega)) i) (show (3 : Nat) ≠ 4 by decide) (show (3 : Nat) ≠ 13 by decide)
  | 26, hd => exact old 26 i (by have hd : i < nG (mSm M t j x7 x8 x9 x0 x1) := hd; rw [eG] at hd; exact hd) (congrFun (m 26 (by omega)) i) (show (3 : Nat) ≠ 4 by decide) (show (3 : Nat) ≠ 13 by decide)
  | 27, hd => exact old 27 i (by have hd : i < nG (mSm M t j x7 x8 x9 x0 x1) := hd; rw [eG] at hd; exact hd) (congrFun (m 27 (by omega)) i) (show (6 : Nat) ≠ 4 by decide) (show (6 : Nat) ≠ 13 by decide)
  | 28, hd => exact old 28 i (by have hd : i / 8 < nG (mSm M t j x7 x8 x9 x0 x1) := hd; rw [eG] at hd; exact hd) (congrFun (m 28 (by omega)) i) (show (12 : Nat) ≠ 4 by decide) (show (12 : Nat) ≠ 13 by decide)
  | 29, hd =>
    have hd : dom M 29 i := by have hd : i / 4 < nG (mSm M t j x7 x8 x9 x0 x1) := hd; rw [eG] at hd; exact hd
    show vMd S2 (13, 1, i / 4) (i % 4) 0 (-1) = mSm M t j x7 x8 x9 x0 x1 29 i
    rw [m 29 (by omega), md1 _ _ _ _ (show i / 4 < nG M from hd)]
    exact h.2.1 29 i hd
  | 30, hd =>
    have hd : dom M 30 i := by have hd : i / 4 < nG (mSm M t j x7 x8 x9 x0 x1) ∧ mSm M t j x7 x8 x9 x0 x1 29 i ≠ -1 := hd; rw [eG, m 29 (by omega)] at hd; exact hd
    show vMd S2 (13, 1, i / 4) (i % 4) 1 0 = mSm M t j x7 x8 x9 x0 x1 30 i
    rw [m 30 (by omega), md1 _ _ _ _ (show i / 4 < nG M from hd.1)]
    exact h.2.1 30 i hd
  | 31, hd =>
    have hd : dom M 31 i := by have hd : i / 4 < nG (mSm M t j x7 x8 x9 x0 x1) ∧ mSm M t j x7 x8 x9 x0 x1 29 i ≠ -1 := hd; rw [eG, m 29 (by omega)] at hd; exact hd
    show vMd S2 (13, 1, i / 4) (i % 4) 2 0 = mSm M t j x7 x8 x9 x0 x1 31 i
    rw [m 31 (by omega), md1 _ _ _ _ (show i / 4 < nG M from hd.1)]
    exact h.2.1 31 i hd
  | 32, hd =>
    have hd : dom M 32 i := by have hd : i / 4 < nG (mSm M t j x7 x8 x9 x0 x1) ∧ mSm M t j x7 x8 x9 x0 x1 29 i ≠ -1 := hd; rw [eG, m 29 (by omega)] at hd; exact hd
    show vMd S2 (13, 1, i / 4) (i % 4) 3 0 = mSm M t j x7 x8 x9 x0 x1 32 i
    rw [m 32 (by omega), md1 _ _ _ _ (show i / 4 < nG M from hd.1)]
    exact h.2.1 32 i hd
  | 33, hd =>
    have hd : dom M 33 i := by have hd : i / 4 < nG (mSm M t j x7 x8 x9 x0 x1) ∧ mSm M t j x7 x8 x9 x0 x1 29 i ≠ -1 := hd; rw [eG, m 29 (by omega)] at hd; exact hd
    show vMd S2 (13, 1, i / 4) (i % 4) 4 0 = mSm M t j x7 x8 x9 x0 x1 33 i
    rw [m 33 (by omega), md1 _ _ _ _ (show i / 4 < nG M from hd.1)]
    exact h.2.1 33 i hd
  | 34, hd => exact old 34 i (by have hd : i < nG (mSm M t j x7 x8 x9 x0 x1) := hd; rw [eG] at hd; exact hd) (congrFun (m 34 (by omega)) i) (show (6 : Nat) ≠ 4 by decide) (show (6 : Nat) ≠ 13 by decide)
  | 35, hd => exact old 35 i (by have hd : i / 3 < nG (mSm M t j x7 x8 x9 x0 x1) ∧ i % 3 < nD (mSm M t j x7 x8 x9 x0 x1) (i / 3) := hd; rw [eG, eD] at hd; exact hd) (congrFun (m 35 (by omega)) i) (show (14 : Nat) ≠ 4 by decide) (show (14 : Nat) ≠ 13 by decide)
  | 36, hd => exact old 36 i (by have hd : i / 3 < nG (mSm M t j x7 x8 x9 x0 x1) ∧ i % 3 < nD (mSm M t j x7 x8 x9 x0 x1) (i / 3) := hd; rw [eG, eD] at hd; exact hd) (congrFun (m 36 (by omega)) i) (show (15 : Nat) ≠ 4 by decide) (show (15 : Nat) ≠ 13 by decide)
  | 37, hd => exact hd.elim
  | 38, hd => exact hd.elim
  | 39, hd => exact hd.elim
  | 40, hd => exact hd.elim
  | 41, hd => exact hd.elim
  | 42, hd => exact hd.elim
  | 43, hd => exact hd.elim
  | 44, hd => exact hd.elim
  | 45, hd => exact hd.elim
  | 46, hd => exact hd.elim
  | 47, hd => exact hd.elim
  | 48, hd => exact hd.elim
  | 49, hd => exact old 49 i (show dom M 49 i from (show i < 2 from hd)) (congrFun (m 49 (by omega)) i) (show (9 : Nat) ≠ 4 by decide) (show (9 : Nat) ≠ 13 by decide)
  | 50, hd => exact old 50 i (show dom M 50 i from (show i < 4 from hd)) (congrFun (m 50 (by omega)) i) (show (20 : Nat) ≠ 4 by decide) (show (20 : Nat) ≠ 13 by decide)
  | n + 51, hd => exact hd.elim
theorem sm_tie (h : Tie S M) (ht : t < nT M) (hj : j < 4) {N : Nat} (hN : zN S (10, 0, 0) 0 = N) {ob : Option Nat} {x7 x8 x9 x0 x1 : Int32} (hX : eqX S S1 (fun c => c = (4, N, 0))) (ho : smO S1 N ob x7 x8 x9 x0 x1) : Tie (pN (pQ S1 (13, 0, t) j ob) (10, 0, 0) 0 (zN (pQ S1 (13, 0, t) j ob) (10, 0, 0) 0 + 1)) (mSm M t j x7 x8 x9 x0 x1) := by
  have hT6 := nT6 h.1
  obtain ⟨eT, eB, eG, eS, eD, eL⟩ := sm_n (M := M) (t := t) (j := j) (x7 := x7) (x8 := x8) (x9 := x9) (x0 := x0) (x1 := x1)
  obtain ⟨n1, n2, n3, n4, n5, n6, n7, n8, n9, n10, n11⟩ := h.2.2.1
  have zN0 : zN (pQ S1 (13, 0, t) j ob) (10, 0, 0) 0 = N := by
    rw [zN_pQ, (hX (10, 0, 0) (kne (show (10 : Nat) ≠ 4 by decide))).2.2.2.1, hN]
  rw [zN0]
  have zq : ∀ c k, zQ (pN (pQ S1 (13, 0, t) j ob) (10, 0, 0) 0 (N + 1)) c k = if c = (13, 0, t) ∧ k = j then ob else zQ S1 c k := by
    intro c k
    rw [zQ_pN, zQ_pQ]
    by_cases e : c = (13, 0, t)
    · rw [if_pos e]
      unfold va_up
      by_cases e2 : k = j
      · rw [if_pos e2, if_pos ⟨e, e2⟩]
      · rw [if_neg e2, if_neg (fun q => e2 q.2)]
    · rw [if_neg e, if_neg (fun q => e q.1)]
  have zqo : ∀ c k, c.1 = 13 → ¬ (c = (13, 0, t) ∧ k = j) → zQ (pN (pQ S1 (13, 0, t) j ob) (10, 0, 0) 0 (N + 1)) c k = zQ S c k := fun c k hc hn => by
    rw [zq, if_neg hn, (hX c (fun e => by rw [e] at hc; exact absurd hc (by decide : ¬ (4 : Nat) = 13))).2.2.1]
  have zN1 : zN (pN (pQ S1 (13, 0, t) j ob) (10, 0, 0) 0 (N + 1)) (10, 0, 0) 0 = N + 1 := by
    rw [zN_pN, if_pos rfl]
    exact if_pos rfl
  have V2 : ∀ c : zId, c ≠ (4, N, 0) → zV (pN (pQ S1 (13, 0, t) j ob) (10, 0, 0) 0 (N + 1)) c = zV S c := fun c hc => by
    rw [zV_pN, zV_pQ, (hX c hc).2.2.2.2]
  have ls : ∀ i n, zLs S i n → zLs (pN (pQ S1 (13, 0, t) j ob) (10, 0, 0) 0 (N + 1)) i n := by
    intro i n hl
    have a0 := hX (0, i, 0) (kne (show (0 : Nat) ≠ 4 by decide))
    have a23 := fun g => hX (23, i, g) (kne (show (23 : Nat) ≠ 4 by decide))
    have b0 : zN (pN (pQ S1 (13, 0, t) j ob) (10, 0, 0) 0 (N + 1)) (0, i, 0) = zN S (0, i, 0) := by
      rw [zN_pN, if_neg (kne (show (0 : Nat) ≠ 10 by decide)), zN_pQ, a0.2.2.2.1]
    have b23 : ∀ g, zN (pN (pQ S1 (13, 0, t) j ob) (10, 0, 0) 0 (N + 1)) (23, i, g) = zN S (23, i, g) := fun g => by
      rw [zN_pN, if_neg (kne (show (23 : Nat) ≠ 10 by decide)), zN_pQ, (a23 g).2.2.2.1]
    unfold zLs at hl ⊢
    rw [zI_pN, zI_pQ, a0.1, b0, b23]
    exact ⟨hl.1, fun g hg => by rw [V2 _ (kne (show (23 : Nat) ≠ 4 by decide))]; exact hl.2.1 g hg, hl.2.2⟩
  refine ⟨sm_wm h.1 ht hj (smO_md ho), sm_ag h ht hj hN hX ho (fun c => by rw [zI_pN, zI_pQ]) zq, ?_, fun g hg => ?_⟩
  · refine ⟨by rw [V2 _ (kne (show (10 : Nat) ≠ 4 by decide))]; exact n1, by rw [V2 _ (kne (show (1 : Nat) ≠ 4 by decide))]; exact n2, by rw [eT]; exact ls _ _ n3, by rw [eG]; exact ls _ _ n4, fun u hu => by rw [eT] at hu; rw [eB]; exact ls _ _ (n5 u hu), fun u hu => ?_, fun u k hu hk => ?_, fun g hg => ?_, fun n hn => ?_, fun u k n hu hq => ?_, fun g k n hg hq => ?_⟩
    · rw [eT] at hu
      obtain ⟨q8, q0, q7, q12, q13, q23⟩ := n6 u hu
      exact ⟨by rw [V2 _ (kne (show (8 : Nat) ≠ 4 by decide))]; exact q8, by rw [V2 _ (kne (show (0 : Nat) ≠ 4 by decide))]; exact q0, by rw [V2 _ (kne (show (7 : Nat) ≠ 4 by decide))]; exact q7, by rw [V2 _ (kne (show (12 : Nat) ≠ 4 by decide))]; exact q12, by rw [V2 _ (kne (show (13 : Nat) ≠ 4 by decide))]; exact q13, fun g => by rw [V2 _ (kne (show (23 : Nat) ≠ 4 by decide))]; exact q23 g⟩
    · rw [eB] at hk
      rw [V2 _ (kne (show (2 : Nat) ≠ 4 by decide))]
      exact n7 u k hu hk
    · rw [eG] at hg
      obtain ⟨q3, q7, q12, q13, q6, q14, q15, q16⟩ := n8 g hg
      exact ⟨by rw [V2 _ (kne (show (3 : Nat) ≠ 4 by decide))]; exact q3, by rw [V2 _ (kne (show (7 : Nat) ≠ 4 by decide))]; exact q7, by rw [V2 _ (kne (show (12 : Nat) ≠ 4 by decide))]; exact q12, by rw [V2 _ (kne (show (13 : Nat) ≠ 4 by decide))]; exact q13, by rw [V2 _ (kne (show (6 : Nat) ≠ 4 by decide))]; exact q6, by rw [V2 _ (kne (show (14 : Nat) ≠ 4 by decide))]; exact q14, by rw [V2 _ (kne (show (15 : Nat) ≠ 4 by decide))]; exact q15, by rw [V2 _ (kne (show (16 : Nat) ≠ 4 by decide))]; exact q16⟩
    · rw [zN1] at hn
      rw [V2 _ (fun e => by have := congrArg (fun z : zId => z.2.1) e; dsimp only at this; omega)]
      exact n9 n (by omega)
    · rw [eT] at hu
      rw [zN1]
      by_cases e : (13, 0, u) = ((13, 0, t) : zId) ∧ k = j
      · rw [zq, if_pos e] at hq
        rcases ho with ⟨o1, -⟩ | ⟨o1, -⟩
        · rw [o1] at hq; cases hq
        · rw [o1] at hq
          cases hq
          exact Nat.lt_succ_self _
      · rw [zqo _ _ rfl e] at hq
        have := n10 u k n hu hq
        omega
    · rw [eG] at hg
      rw [zN1]
      rw [zqo _ _ rfl (fun q => absurd (congrArg (fun z : zId => z.2.1) q.1) (by decide : ¬ (1 : Nat) = 0))] at hq
      have := n11 g k n hg hq
      omega
  · rw [eG] at hg
    obtain ⟨l1, l2⟩ := h.2.2.2 g hg
    rw [ents_eq2 (eL g) (mSm_o 37 (by omega)) (mSm_o 38 (by omega)) (mSm_o 39 (by omega))]
    refine ⟨?_, fun k n hk => ?_⟩
    · rw [zI_pN, zI_pQ, (hX _ (kne (show (3 : Nat) ≠ 4 by decide))).1]; exact l1
    · rw [zL_pN, zL_pQ, (hX _ (kne (show (16 : Nat) ≠ 4 by decide))).2.1]; exact l2 k n hk
/-- the first arguments are of things that are there -/
def arSm (M : zMs) (t : Nat) (i2 i3 : Int32) : Prop := inR i2 0 3 ∧ (i3 < 0 ∨ (∃ k1, k1 < nB M t ∧ i3 / 10 = nI k1) ∧ ∃ k2, k2 < nB M t ∧ i3 - i3 / 10 * 10 = nI k2)
def fiSm (i3 i4 i5 : Int32) : Prop := ¬ i3 < -1 ∧ inR (i4 / 100) 1 20 ∧ inR (i4 - i4 / 100 * 100) 2 9 ∧ inR i5 0 5000
theorem lim_in {i4 : Int32} (h1 : inR (i4 / 100) 1 20) (h2 : inR (i4 - i4 / 100 * 100) 2 9) : ¬ i4 < 0 := by
  obtain ⟨aw, awa, awb, ew⟩ := inR_of h1 (m := 1) (n := 20) (by decide) (by decide) (by decide) (by decide)
  obtain ⟨ah1, aha, ahb, eh⟩ := inR_of h2 (m := 2) (n := 9) (by decide) (by decide) (by decide) (by decide)
  have e : i4 = nI (ah1 + aw * 100) := by
    have e1 : i4 = (i4 - i4 / 100 * 100) + i4 / 100 * 100 := (Int32.sub_add_cancel _ _).symm
    rw [eh, ew, c100I, pk_mul, nI_add] at e1
    exact e1
  rw [e]
  exact nI_pos (by omega)
theorem sm10_1 {i1 i2 i3 i4 i5 : Int32} : fX10_setMode M i1 i2 i3 i4 i5 = (cl (fX10_isTable M i1) fun r1 => st (fun y4 => tailSm M i1 i2 i3 i4 i5 y4) fun j6 => st (fun (_ : Unit) => j6 0) fun j50 => if r1 = 0 then j50 () else cl (fX10_in M i2 (0 : Int32) (3 : Int32)) fun r51 => if r51 = 0 then j50 () else st (fun (_ : Unit) => j6 1) fun j54 => if i3 < 0 then j54 () else cl (fX10_isSwitch M i1 (i3 / (10 : Int32))) fun r55 => if r55 = 0 then j50 () else cl (fX10_isSwitch M i1 (i3 - i3 / (10 : Int32) * (10 : Int32))) fun r58 => if r58 = 0 then j50 () else j54 ()) := rfl
theorem sm10_in (h : WM M) (ht : t < nT M) {i2 i3 i4 i5 : Int32} (ha : arSm M t i2 i3) : fX10_setMode M (nI t) i2 i3 i4 i5 = tailSm M (nI t) i2 i3 i4 i5 1 := by
  rw [sm10_1]
  obtain ⟨h2, h3⟩ := ha
  by_cases h0 : i3 < 0
  · simp only [isTable_in h ht, cl_q, st_q, i10, if_false, in_in h2, h0, if_true]
  · obtain ⟨⟨k1, hk1, e1⟩, k2, hk2, e2⟩ := h3.resolve_left h0
    rw [e1]
    rw [e1] at e2
    simp only [isTable_in h ht, cl_q, st_q, i10, if_false, in_in h2, h0, isSwitch_in h ht hk1, e2, isSwitch_in h ht hk2]
theorem sm10_out (h : WM M) (ht : t < nT M) {i2 i3 i4 i5 : Int32} (ha : ¬ arSm M t i2 i3) : fX10_setMode M (nI t) i2 i3 i4 i5 = tailSm M (nI t) i2 i3 i4 i5 0 := by
  have hT6 := nT6 h
  have h8 := nB8 h (t := t) (by omega)
  rw [sm10_1]
  by_cases h2 : inR i2 0 3
  · by_cases h0 : i3 < 0
    · exact absurd ⟨h2, Or.inl h0⟩ ha
    · rcases ixc (i3 / 10) (nB M t) (by omega) with q | ⟨k1, hk1, e1⟩
      · simp only [isTable_in h ht, cl_q, st_q, i10, if_false, in_in h2, h0, isSwitch_out h ht q, if_true]
      · rcases ixc (i3 - i3 / 10 * 10) (nB M t) (by omega) with q | ⟨k2, hk2, e2⟩
        · rw [e1]
          rw [e1] at q
          simp only [isTable_in h ht, cl_q, st_q, i10, if_false, in_in h2, h0, isSwitch_in h ht hk1, isSwitch_out h ht q, if_true]
        · exact absurd ⟨h2, Or.inr ⟨⟨k1, hk1, e1⟩, k2, hk2, e2⟩⟩ ha
  · simp only [isTable_in h ht, cl_q, st_q, i10, if_false, in_out h2, if_true]
theorem sm10_2 {i1 i2 i3 i4 i5 y4 : Int32} : tailSm M i1 i2 i3 i4 i5 y4 = (st y4 fun x7 => st (fun y8 => tailSn M i1 i2 i3 i4 i5 x7 y8) fun j10 => st (fun (_ : Unit) => j10 0) fun j40 => if i3 < (-1 : Int32) then j40 () else if i4 < 0 then j40 () else cl (fX10_in M (i4 / (100 : Int32)) (1 : Int32) (20 : Int32)) fun r41 => if r41 = 0 then j40 () else cl (fX10_in M (i4 - i4 / (100 : Int32) * (100 : Int32)) (2 : Int32) (9 : Int32)) fun r44 => if r44 = 0 then j40 () else cl (fX10_in M i5 (0 : Int32) (5000 : Int32)) fun r47 => if r47 = 0 then j40 () else j10 1) := rfl
theorem sm10_fi {i1 i2 i3 i4 i5 y4 : Int32} (hf : fiSm i3 i4 i5) : tailSm M i1 i2 i3 i4 i5 y4 = tailSn M i1 i2 i3 i4 i5 y4 1 := by
  obtain ⟨h3, h4, h4b, h5⟩ := hf
  rw [sm10_2]
  simp only [st_q, h3, if_false, lim_in h4 h4b, in_in h4, in_in h4b, in_in h5, cl_q, i10]
theorem sm10_fo {i1 i2 i3 i4 i5 y4 : Int32} (hf : ¬ fiSm i3 i4 i5) : tailSm M i1 i2 i3 i4 i5 y4 = tailSn M i1 i2 i3 i4 i5 y4 0 := by
  rw [sm10_2]
  by_cases h3 : i3 < -1
  · simp only [st_q, h3, if_true]
  · by_cases h0 : i4 < 0
    · simp only [st_q, h3, if_false, h0, if_true]
    · by_cases h4 : inR (i4 / 100) 1 20
      · by_cases h4b : inR (i4 - i4 / 100 * 100) 2 9
        · by_cases h5 : inR i5 0 5000
          · exact absurd ⟨h3, h4, h4b, h5⟩ hf
          · simp only [st_q, h3, if_false, h0, in_in h4, in_in h4b, in_out h5, cl_q, i10, if_true]
        · simp only [st_q, h3, if_false, h0, in_in h4, in_out h4b, cl_q, i10, if_true]
      · simp only [st_q, h3, if_false, h0, in_out h4, cl_q, if_true]
/-- the class, behind the first demands -/
def smX (S : zSt) (t : Nat) (i2 i3 i4 i5 : Int32) : Option ((Nat × zSt) ⊕ (Int32 × zSt)) :=
  cx (fX9_demandLeast S i3 (-1 : Int32)) fun r9 => cx (fX9_demandRange S (i4 / (100 : Int32)) (1 : Int32) (20 : Int32)) fun r12 => cx (fX9_demandRange S (i4 - i4 / (100 : Int32) * (100 : Int32)) (2 : Int32) (9 : Int32)) fun r15 => cx (fX9_demandRange S i5 (0 : Int32) (5000 : Int32)) fun r18 => cx (fX9_demandNoGame S t) fun r21 => cl (fX6_modeOf S 0 t i2) fun r25 =>
  st (fun (y28 : Int32) => (st y28 fun x31 => if i3 = (-1 : Int32) then cl (fX6_changeMode S 0 t i2 none) fun S43 => some (.inr (x31, S43)) else fin (st (zN S (10, 0, 0) 0) fun g34 => cl (fX3_init S g34 (i3 / (10 : Int32)) (i3 - i3 / (10 : Int32) * (10 : Int32)) (i4 / (100 : Int32)) (i4 - i4 / (100 : Int32) * (100 : Int32)) i5) fun S36 => cl (fX6_changeMode S36 0 t i2 (some g34)) fun S40 => some ((x31, S40))) : Option ((Nat × zSt) ⊕ (Int32 × zSt)))) fun j30 => om r25 (j30 (0 : Int32)) fun n44 => j30 (1 : Int32)
theorem sm9_1 {i1 i2 i3 i4 i5 : Int32} : fX9_setMode S i1 i2 i3 i4 i5 = (cx (fX9_demandTable S i1) fun r1 => cx (fX9_demandIndex S i2 (4 : Int32)) fun r5 => st (fun (_ : Unit) => smX S r1 i2 i3 i4 i5) fun j8 => if i3 < 0 then j8 () else cx (fX9_demandBumper S r1 (i3 / (10 : Int32))) fun r46 => cx (fX9_demandBumper S r1 (i3 - i3 / (10 : Int32) * (10 : Int32))) fun r50 => j8 ()) := rfl
theorem dI_4 {i2 : Int32} (h2 : inR i2 0 3) : fX9_demandIndex S i2 (4 : Int32) = some (.inr ()) := by
  obtain ⟨k, -, hk, rfl⟩ := inR_of h2 (m := 0) (n := 3) (by decide) (by decide) (by decide) (by decide)
  exact dI_in (nI_pos (by omega)) (by rw [c4I]; exact nI_lt (by omega) (by omega))
theorem dI_4n {i2 : Int32} (h2 : ¬ inR i2 0 3) : fX9_demandIndex S i2 (4 : Int32) = some (.inl (1, S)) := by
  refine dI_out ?_
  by_cases h0 : i2 < 0
  · exact Or.inl h0
  · right
    obtain ⟨k, hk, rfl⟩ := nI_of h0
    rw [c4I, nI_leI (by omega) hk]
    by_cases e : k ≤ 3
    · exact absurd ⟨nI_pos' hk, by rw [show (3 : Int32) = nI 3 by decide]; exact nI_le e (by omega)⟩ h2
    · omega
theorem sm9_in (h : Tie S M) (ht : t < nT M) {i2 i3 i4 i5 : Int32} (ha : arSm M t i2 i3) : fX9_setMode S (nI t) i2 i3 i4 i5 = smX S t i2 i3 i4 i5 := by
  rw [sm9_1, dT_in h ht, cx_r, dI_4 ha.1, cx_r, st_s]
  by_cases h0 : i3 < 0
  · rw [if_pos h0]
  · obtain ⟨⟨k1, hk1, e1⟩, k2, hk2, e2⟩ := ha.2.resolve_left h0
    rw [if_neg h0, e1, dB_in h ht hk1, cx_r]
    rw [e1] at e2
    rw [e2, dB_in h ht hk2, cx_r]
theorem sm9_out (h : Tie S M) (ht : t < nT M) {i2 i3 i4 i5 : Int32} (ha : ¬ arSm M t i2 i3) : fX9_setMode S (nI t) i2 i3 i4 i5 = some (.inl (1, S)) := by
  have hT6 := nT6 h.1
  have h8 := nB8 h.1 (t := t) (by omega)
  rw [sm9_1, dT_in h ht, cx_r]
  by_cases h2 : inR i2 0 3
  · rw [dI_4 h2, cx_r, st_s]
    by_cases h0 : i3 < 0
    · exact absurd ⟨h2, Or.inl h0⟩ ha
    · rw [if_neg h0]
      rcases ixc (i3 / 10) (nB M t) (by omega) with q | ⟨k1, hk1, e1⟩
      · rw [dB_out h ht q, cx_l]
      · rcases ixc (i3 - i3 / 10 * 10) (nB M t) (by omega) with q | ⟨k2, hk2, e2⟩
        · rw [e1, dB_in h ht hk1, cx_r]
          rw [e1] at q
          rw [dB_out h ht q, cx_l]
        · exact absurd ⟨h2, Or.inr ⟨⟨k1, hk1, e1⟩, k2, hk2, e2⟩⟩ ha
  · rw [dI_4n h2, cx_l]
theorem smX_fo {i2 i3 i4 i5 : Int32} (hf : ¬ fiSm i3 i4 i5) : smX S t i2 i3 i4 i5 = some (.inl (2, S)) := by
  unfold smX
  by_cases h3 : i3 < -1
  · rw [dLe_out h3, cx_l]
  · rw [dLe_in h3, cx_r]
    by_cases h4 : inR (i4 / 100) 1 20
    · rw [dR_in h4, cx_r]
      by_cases h4b : inR (i4 - i4 / 100 * 100) 2 9
      · rw [dR_in h4b, cx_r]
        by_cases h5 : inR i5 0 5000
        · exact absurd ⟨h3, h4, h4b, h5⟩ hf
        · rw [dR_out h5, cx_l]
      · rw [dR_out h4b, cx_l]
    · rw [dR_out h4, cx_l]
theorem chM_eq (S : zSt) {j : Nat} (hj : j < 4) (ob : Option Nat) : fX6_changeMode S 0 t (nI j) ob = some (pQ S (13, 0, t) j ob) := by
  unfold fX6_changeMode
  cases ob with
  | none => simp (disch := omega) only [Nat.add_sub_cancel, nI_0, c2I, c3I, c4I, c6I, c8I, c9I, c10I, c15I, c16I, c20I, c30I, c40I, c48I, c60I, c100I, c120I, c159I, c160I, c239I, c240I, c256I, c300I, c318I, c320I, c720I, c840I, c960I, c2520I, c36000I, c1048576I, nI_1, nI_add, pk_mul, nI_pred1, nI_pm1, pk_sub, pk_div, nI_clamp, nI_lz, nI_leI, nI_ltI, nI_eq, nI_z, nI_lez, nI_gez, nI_gtz, nI_m, nI_m2, nI_lem, nI_ltm, nleF, leT, ltT, ltF, eqT, eqF, false_or, or_false, not_false_eq_true, not_true_eq_false, gd_T, st_q, cl_q, cl2_q, cxr_q, cxl_q, i10, if_true, if_false, Bool.false_eq_true, om_n]
  | some n => simp (disch := omega) only [Nat.add_sub_cancel, nI_0, c2I, c3I, c4I, c6I, c8I, c9I, c10I, c15I, c16I, c20I, c30I, c40I, c48I, c60I, c100I, c120I, c159I, c160I, c239I, c240I, c256I, c300I, c318I, c320I, c720I, c840I, c960I, c2520I, c36000I, c1048576I, nI_1, nI_add, pk_mul, nI_pred1, nI_pm1, pk_sub, pk_div, nI_clamp, nI_lz, nI_leI, nI_ltI, nI_eq, nI_z, nI_lez, nI_gez, nI_gtz, nI_m, nI_m2, nI_lem, nI_ltm, nleF, leT, ltT, ltF, eqT, eqF, false_or, or_false, not_false_eq_true, not_true_eq_false, gd_T, st_q, cl_q, cl2_q, cxr_q, cxl_q, i10, if_true, if_false, Bool.false_eq_true, om_s]
theorem ok_setMode (S : zSt) (M : zMs) (i1 i2 i3 i4 i5 : Int32) (h : Tie S M) : zOk Tie [1, 2, 3] (fun y : (Int32 × zSt) => (if y.1 = 0 then (0 : Int64) else 1)) (fun y : (Int32 × zSt) => (pN y.2 (10, 0, 0) 0 (zN y.2 (10, 0, 0) 0 + 1))) (fX9_setMode S i1 i2 i3 i4 i5) (fun b : Int32 => (if b = 0 then (0 : Int64) else 1)) (fX10_setMode M i1 i2 i3 i4 i5) := by
  have h6 := nT6 h.1
  rcases ixc i1 (nT M) (by omega) with hi | ⟨t, ht, rfl⟩
  · have e0 : fX10_setMode M i1 i2 i3 i4 i5 = tailSm M i1 i2 i3 i4 i5 0 := by
      rw [sm10_1]
      simp only [isTable_out h.1 hi, cl_q, st_q, if_true]
    refine thr h (n := 1) (w := 1) (b := 0) (by simp) (by decide) ?_ ?_
    · rw [sm9_1, dT_out h hi, cx_l]
    · rw [e0]
      by_cases hf : fiSm i3 i4 i5
      · rw [sm10_fi hf]
        unfold tailSn
        simp only [st_q, if_true, i10, if_false, refused_n M i10, cl2_q]
      · rw [sm10_fo hf]
        unfold tailSn
        simp only [st_q, if_true, i10, if_false, refused_n M i10, cl2_q]
  · by_cases ha : arSm M t i2 i3
    · by_cases hf : fiSm i3 i4 i5
      · have z7 : zI S (8, t, 0) 4 = M 7 t := ag h 7 t ht
        by_cases hfr : M 7 t = -1
        · obtain ⟨h2, h3⟩ := ha
          obtain ⟨f3, f4, f4b, f5⟩ := hf
          obtain ⟨j, -, hj, rfl⟩ := inR_of h2 (m := 0) (n := 3) (by decide) (by decide) (by decide) (by decide)
          have hj4 : j < 4 := by omega
          have z17 := zq17 h ht hj4
          have c24 : (nI (4 * t + j)).toNatClampNeg = 4 * t + j := nI_clamp (by omega)
          have g24 : ¬ 24 ≤ 4 * t + j := by omega
          have e17 : pM M 0 0 0 17 (4 * t + j) = M 17 (4 * t + j) := rfl
          obtain ⟨r9, hr9⟩ : ∃ x : Int32, (M 17 (4 * t + j) = -1 ∧ x = 0) ∨ (¬ M 17 (4 * t + j) = -1 ∧ x = 1) := by
            by_cases e : M 17 (4 * t + j) = -1
            · exact ⟨0, Or.inl ⟨e, rfl⟩⟩
            · exact ⟨1, Or.inr ⟨e, rfl⟩⟩
          -- the class's answer
          have cls : ∀ (S2 : zSt), (∀ x : Int32, (if i3 = (-1 : Int32) then (cl (fX6_changeMode S 0 t (nI j) none) fun S43 => some (.inr (x, S43)) : Option ((Nat × zSt) ⊕ (Int32 × zSt))) else fin (st (zN S (10, 0, 0) 0) fun g34 => cl (fX3_init S g34 (i3 / (10 : Int32)) (i3 - i3 / (10 : Int32) * (10 : Int32)) (i4 / (100 : Int32)) (i4 - i4 / (100 : Int32) * (100 : Int32)) i5) fun S36 => cl (fX6_changeMode S36 0 t (nI j) (some g34)) fun S40 => some ((x, S40)))) = some (.inr (x, S2))) → smX S t (nI j) i3 i4 i5 = some (.inr (r9, S2)) := by
            intro S2 hx
            unfold smX fX9_demandNoGame
            rw [dLe_in f3, cx_r, dR_in f4, cx_r, dR_in f4b, cx_r, dR_in f5, cx_r, z7, if_pos hfr, cx_r, modeOf_eq S 0 t hj4, cl_s, st_s]
            rcases hr9 with ⟨q1, q2⟩ | ⟨q1, q2⟩
            · rw [z17.mpr q1, om_n, q2]
              show st (0 : Int32) _ = _
              rw [st_s]
              exact hx 0
            · cases hz : zQ S (13, 0, t) j with
              | none => exact absurd (z17.mp hz) q1
              | some n =>
                rw [om_s, q2]
                show st (1 : Int32) _ = _
                rw [st_s]
                exact hx 1
          have ref : ∀ x7 x8 : Int32, (i3 = -1 ∧ x7 = -1 ∧ x8 = 0) ∨ (¬ i3 = -1 ∧ x7 = i3 / 10 ∧ x8 = i3 - i3 / 10 * 10) → tailSn M (nI t) (nI j) i3 i4 i5 1 1 = some (r9, mSm M t j x7 x8 (i4 / 100) (i4 - i4 / 100 * 100) i5) := by
            intro x7 x8 hx
            unfold tailSn mSm
            rcases hr9 with ⟨q1, q2⟩ | ⟨q1, q2⟩
            · rcases hx with ⟨a1, a2, a3⟩ | ⟨a1, a2, a3⟩
              · simp (disch := omega) only [st_q, i10, if_false, isFree_eq M (show t < 6 by omega), hfr, if_true, cl_q, refused_0, cl2_q, ix4, c24, nI_pos (show 4 * t + j < 2 ^ 31 by omega), false_or, g24, not_false_eq_true, gd_T, pMn, q1, q2, a1, a2, a3]
              · simp (disch := omega) only [st_q, i10, if_false, isFree_eq M (show t < 6 by omega), hfr, if_true, cl_q, refused_0, cl2_q, ix4, c24, nI_pos (show 4 * t + j < 2 ^ 31 by omega), false_or, g24, not_false_eq_true, gd_T, pMn, q1, q2, a1, a2, a3]
            · rcases hx with ⟨a1, a2, a3⟩ | ⟨a1, a2, a3⟩
              · simp (disch := omega) only [st_q, i10, if_false, isFree_eq M (show t < 6 by omega), hfr, if_true, cl_q, refused_0, cl2_q, ix4, c24, nI_pos (show 4 * t + j < 2 ^ 31 by omega), false_or, g24, not_false_eq_true, gd_T, pMn, q1, q2, a1, a2, a3]
              · simp (disch := omega) only [st_q, i10, if_false, isFree_eq M (show t < 6 by omega), hfr, if_true, cl_q, refused_0, cl2_q, ix4, c24, nI_pos (show 4 * t + j < 2 ^ 31 by omega), false_or, g24, not_false_eq_true, gd_T, pMn, q1, q2, a1, a2, a3]
          have h2' : inR (nI j) 0 3 := h2
          by_cases hm1 : i3 = -1
          · refine Or.inl ⟨(r9, pQ S (13, 0, t) j none), r9, mSm M t j (-1) 0 (i4 / 100) (i4 - i4 / 100 * 100) i5, ?_, ?_, rfl, rfl, sm_tie h ht hj4 rfl (fun c _ => ⟨rfl, rfl, rfl, rfl, rfl⟩) (Or.inl ⟨rfl, rfl⟩)⟩
            · rw [sm9_in h ht ⟨h2', h3⟩]
              refine cls _ (fun x => ?_)
              rw [if_pos hm1, chM_eq S hj4, cl_s]
            · rw [sm10_in h.1 ht ⟨h2', h3⟩, sm10_fi ⟨f3, f4, f4b, f5⟩]
              exact ref (-1) 0 (Or.inl ⟨hm1, rfl, rfl⟩)
          · have h30 : ¬ i3 < 0 := by
              intro q
              have a1 := Int32.lt_iff_toInt_lt.mp q
              have a2 : ¬ i3.toInt < (-1 : Int32).toInt := fun q2 => f3 (Int32.lt_iff_toInt_lt.mpr q2)
              have a3 : (-1 : Int32).toInt = -1 := by decide
              have a4 : (0 : Int32).toInt = 0 := by decide
              exact hm1 (Int32.toInt_inj.mp (by omega))
            obtain ⟨⟨k1, hk1, e1⟩, k2, hk2, e2⟩ := h3.resolve_left h30
            have h8 := nB8 h.1 (t := t) (by omega)
            have fN : zV S (4, zN S (10, 0, 0) 0, 0) = false := h.2.2.1.2.2.2.2.2.2.2.2.1 _ (Nat.le_refl _)
            obtain ⟨aw, awa, awb, ew⟩ := inR_of f4 (m := 1) (n := 20) (by decide) (by decide) (by decide) (by decide)
            obtain ⟨ah1, aha, ahb, eh⟩ := inR_of f4b (m := 2) (n := 9) (by decide) (by decide) (by decide) (by decide)
            obtain ⟨a5, a5a, a5b, e5⟩ := inR_of f5 (m := 0) (n := 5000) (by decide) (by decide) (by decide) (by decide)
            have v1 : zI (nw S (4, zN S (10, 0, 0) 0, 0) (fun k => ([i3 / 10, i3 - i3 / 10 * 10, i4 / 100, i4 - i4 / 100 * 100, i5] : List Int32).getD k 0) (fun _ => 0) (fun _ => none) (fun _ => 0)) (4, zN S (10, 0, 0) 0, 0) = (fun k => ([i3 / 10, i3 - i3 / 10 * 10, i4 / 100, i4 - i4 / 100 * 100, i5] : List Int32).getD k 0) := by rw [zI_nw, if_pos rfl]
            refine Or.inl ⟨(r9, pQ (nw S (4, zN S (10, 0, 0) 0, 0) (fun k => ([i3 / 10, i3 - i3 / 10 * 10, i4 / 100, i4 - i4 / 100 * 100, i5] : List Int32).getD k 0) (fun _ => 0) (fun _ => none) (fun _ => 0)) (13, 0, t) j (some (zN S (10, 0, 0) 0))), r9, mSm M t j (i3 / 10) (i3 - i3 / 10 * 10) (i4 / 100) (i4 - i4 / 100 * 100) i5, ?_, ?_, rfl, rfl, sm_tie h ht hj4 rfl (eqX_nw _ _ _ _ _ _) (Or.inr ⟨rfl, ⟨k1, Nat.zero_le _, by omega, e1⟩, ⟨k2, Nat.zero_le _, by omega, e2⟩, ⟨aw, awa, awb, ew⟩, ⟨ah1, aha, ahb, eh⟩, ⟨a5, a5a, a5b, e5⟩, by rw [v1]; rfl, by rw [v1]; rfl, by rw [v1]; rfl, by rw [v1]; rfl, by rw [v1]; rfl⟩)⟩
            · rw [sm9_in h ht ⟨h2', h3⟩]
              refine cls _ (fun x => ?_)
              unfold fX3_init
              rw [if_neg hm1, st_s, gd_t fN, st_s, cl_s, chM_eq _ hj4, cl_s]
              rfl
            · rw [sm10_in h.1 ht ⟨h2', h3⟩, sm10_fi ⟨f3, f4, f4b, f5⟩]
              exact ref _ _ (Or.inr ⟨hm1, rfl, rfl⟩)
        · refine thr h (n := 3) (w := 3) (b := 0) (by simp) (by decide) ?_ ?_
          · rw [sm9_in h ht ha]
            obtain ⟨f3, f4, f4b, f5⟩ := hf
            unfold smX fX9_demandNoGame
            rw [dLe_in f3, cx_r, dR_in f4, cx_r, dR_in f4b, cx_r, dR_in f5, cx_r, z7, if_neg hfr, cx_l]
          · rw [sm10_in h.1 ht ha, sm10_fi hf]
            unfold tailSn
            simp only [st_q, i10, if_false, isFree_eq M (show t < 6 by omega), hfr, if_true, cl_q, refused_n M i30, cl2_q]
      · refine thr h (n := 2) (w := 2) (b := 0) (by simp) (by decide) (by rw [sm9_in h ht ha, smX_fo hf]) ?_
        rw [sm10_in h.1 ht ha, sm10_fo hf]
        unfold tailSn
        simp only [st_q, i10, if_false, if_true, refused_n M i20, cl2_q]
    · refine thr h (n := 1) (w := 1) (b := 0) (by simp) (by decide) (sm9_out h ht ha) ?_
      rw [sm10_out h.1 ht ha]
      by_cases hf : fiSm i3 i4 i5
      · rw [sm10_fi hf]
        unfold tailSn
        simp only [st_q, if_true, i10, if_false, refused_n M i10, cl2_q]
      · rw [sm10_fo hf]
        unfold tailSn
        simp only [st_q, if_true, i10, if_false, refused_n M i10, cl2_q]
end PSM
