/-! high -/
def bX9_cnt (S : zSt) (i_1 : Int32) : (Int32 × Int32) → Option ((Int32 × Int32) ⊕ Int32) := fun (q5 : (Int32 × Int32)) =>
cl (fJ_size S 1) fun r12 =>
if r12 ≤ q5.2 then
some (.inr (q5.1))
else
if (40 : Int32) ≤ q5.2 then
some (.inr (q5.1))
else
gd (¬ (q5.2 < 0 ∨ 40 ≤ q5.2.toNatClampNeg)) (
gd (¬ (i_1 < 0 ∨ 40 ≤ i_1.toNatClampNeg)) (
st (fun (y17 : Int32) => (st (q5.2 + (1 : Int32)) fun x19 =>
some (.inl (y17, x19)) : Option ((Int32 × Int32) ⊕ Int32))) fun j18 =>
st (fun (u_ : Unit) => (st (q5.1 + (1 : Int32)) fun x21 =>
j18 x21 : Option ((Int32 × Int32) ⊕ Int32))) fun j20 =>
if (zI S (22, 0, 0) i_1.toNatClampNeg) < (zI S (22, 0, 0) q5.2.toNatClampNeg) then
j20 ()
else
gd (¬ (q5.2 < 0 ∨ 40 ≤ q5.2.toNatClampNeg)) (
gd (¬ (i_1 < 0 ∨ 40 ≤ i_1.toNatClampNeg)) (
if (zI S (22, 0, 0) q5.2.toNatClampNeg) = (zI S (22, 0, 0) i_1.toNatClampNeg) then
if i_1 ≤ q5.2 then
j18 q5.1
else
j20 ()
else
j18 q5.1))))
def bX9_highI (q9 : Int32 × zSt) (i_1 : Int32) (i_2 : Int32) : (Int32) → Option ((Int32) ⊕ ((Int32 × zSt) ⊕ ((Nat × zSt) ⊕ (Int32 × zSt)))) := fun (q20 : (Int32)) =>
cl (fJ_size q9.2 1) fun r27 =>
if r27 ≤ q20 then
some (.inr (.inr (.inr ((-1 : Int32), q9.2))))
else
cl (fX9_ranksAt q9.2 q20 i_1) fun r29 =>
st (fun (u_ : Unit) => (st (q20 + (1 : Int32)) fun x33 =>
some (.inl (x33)) : Option ((Int32) ⊕ ((Int32 × zSt) ⊕ ((Nat × zSt) ⊕ (Int32 × zSt)))))) fun j32 =>
if r29 = 0 then
j32 ()
else
cl (fX9_countAhead q9.2 q20) fun r34 =>
if r34 = i_2 then
some (.inr (.inr (.inr (q20, q9.2))))
else
j32 ()
def bX9_high (i_1 : Int32) (i_2 : Int32) : (Int32 × zSt) → Option ((Int32 × zSt) ⊕ ((Nat × zSt) ⊕ (Int32 × zSt))) := fun (q9 : (Int32 × zSt)) =>
cl (fJ_size q9.2 1) fun r16 =>
st (fun (u_ : Unit) => (st (0 : Int32) fun x19 =>
lp (fun (q20 : (Int32)) => (cl (fJ_size q9.2 1) fun r27 =>
if r27 ≤ q20 then
some (.inr (.inr (.inr ((-1 : Int32), q9.2))))
else
cl (fX9_ranksAt q9.2 q20 i_1) fun r29 =>
st (fun (u_ : Unit) => (st (q20 + (1 : Int32)) fun x33 =>
some (.inl (x33)) : Option ((Int32) ⊕ ((Int32 × zSt) ⊕ ((Nat × zSt) ⊕ (Int32 × zSt)))))) fun j32 =>
if r29 = 0 then
j32 ()
else
cl (fX9_countAhead q9.2 q20) fun r34 =>
if r34 = i_2 then
some (.inr (.inr (.inr (q20, q9.2))))
else
j32 () : Option ((Int32) ⊕ ((Int32 × zSt) ⊕ ((Nat × zSt) ⊕ (Int32 × zSt)))))) 40000 (x19) : Option ((Int32 × zSt) ⊕ ((Nat × zSt) ⊕ (Int32 × zSt))))) fun j18 =>
if r16 ≤ q9.1 then
j18 ()
else
if (40 : Int32) ≤ q9.1 then
j18 ()
else
cl (fX9_ranksAt q9.2 q9.1 i_1) fun r38 =>
st (fun (y41 : Int32) (S42 : zSt) => (gd (¬ (q9.1 < 0 ∨ 40 ≤ q9.1.toNatClampNeg)) (
st (pI S42 (22, 0, 0) q9.1.toNatClampNeg y41) fun S44 =>
st (q9.1 + (1 : Int32)) fun x45 =>
some (.inl (x45, S44))) : Option ((Int32 × zSt) ⊕ ((Nat × zSt) ⊕ (Int32 × zSt))))) fun j43 =>
if r38 = 0 then
j43 (-1 : Int32) q9.2
else
cl (fJ_get q9.2 1 q9.1) fun r47 =>
cl2 (fX9_replayedScore q9.2 r47 (1 : Int32)) fun r50 S52 =>
j43 r50 S52
def bX10_highC (q11 : Int32 × zMs) (q19 : Int32 × Int32) (i_2 : Int32) : (Int32 × Int32) → Option ((Int32 × Int32) ⊕ ((Int32 × Int32) ⊕ ((Int32 × zMs) ⊕ (Int32 × zMs)))) := fun (q27 : (Int32 × Int32)) =>
if (q11.2 24 0) ≤ q27.2 then
gd (¬ (q19.2 < 0 ∨ 40 ≤ q19.2.toNatClampNeg)) (
st (fun (y33 : Int32) => (st y33 fun x35 =>
st (q19.2 + (1 : Int32)) fun x36 =>
some (.inr (.inl (x35, x36))) : Option ((Int32 × Int32) ⊕ ((Int32 × Int32) ⊕ ((Int32 × zMs) ⊕ (Int32 × zMs)))))) fun j34 =>
st (fun (u_ : Unit) => (j34 q19.1 : Option ((Int32 × Int32) ⊕ ((Int32 × Int32) ⊕ ((Int32 × zMs) ⊕ (Int32 × zMs)))))) fun j37 =>
if (q11.2 48 q19.2.toNatClampNeg) = (-1 : Int32) then
j37 ()
else
if q27.1 = i_2 then
j34 q19.2
else
j37 ())
else
gd (¬ (q27.2 < 0 ∨ 40 ≤ q27.2.toNatClampNeg)) (
st (fun (y38 : Int32) => (st (q27.1 + y38) fun x41 =>
st (q27.2 + (1 : Int32)) fun x42 =>
some (.inl (x41, x42)) : Option ((Int32 × Int32) ⊕ ((Int32 × Int32) ⊕ ((Int32 × zMs) ⊕ (Int32 × zMs)))))) fun j40 =>
st (fun (u_ : Unit) => (j40 (0 : Int32) : Option ((Int32 × Int32) ⊕ ((Int32 × Int32) ⊕ ((Int32 × zMs) ⊕ (Int32 × zMs)))))) fun j43 =>
if (q11.2 48 q27.2.toNatClampNeg) = (-1 : Int32) then
j43 ()
else
cl (fX10_isAhead q11.2 q27.2 q19.2) fun r44 =>
if r44 = 0 then
j43 ()
else
j40 (1 : Int32))
def bX10_highF (q11 : Int32 × zMs) (i_2 : Int32) : (Int32 × Int32) → Option ((Int32 × Int32) ⊕ ((Int32 × zMs) ⊕ (Int32 × zMs))) := fun (q19 : (Int32 × Int32)) =>
if (q11.2 24 0) ≤ q19.2 then
some (.inr (.inr ((q19.1, q11.2))))
else
st (0 : Int32) fun x25 =>
st (0 : Int32) fun x26 =>
lp (fun (q27 : (Int32 × Int32)) => (if (q11.2 24 0) ≤ q27.2 then
gd (¬ (q19.2 < 0 ∨ 40 ≤ q19.2.toNatClampNeg)) (
st (fun (y33 : Int32) => (st y33 fun x35 =>
st (q19.2 + (1 : Int32)) fun x36 =>
some (.inr (.inl (x35, x36))) : Option ((Int32 × Int32) ⊕ ((Int32 × Int32) ⊕ ((Int32 × zMs) ⊕ (Int32 × zMs)))))) fun j34 =>
st (fun (u_ : Unit) => (j34 q19.1 : Option ((Int32 × Int32) ⊕ ((Int32 × Int32) ⊕ ((Int32 × zMs) ⊕ (Int32 × zMs)))))) fun j37 =>
if (q11.2 48 q19.2.toNatClampNeg) = (-1 : Int32) then
j37 ()
else
if q27.1 = i_2 then
j34 q19.2
else
j37 ())
else
gd (¬ (q27.2 < 0 ∨ 40 ≤ q27.2.toNatClampNeg)) (
st (fun (y38 : Int32) => (st (q27.1 + y38) fun x41 =>
st (q27.2 + (1 : Int32)) fun x42 =>
some (.inl (x41, x42)) : Option ((Int32 × Int32) ⊕ ((Int32 × Int32) ⊕ ((Int32 × zMs) ⊕ (Int32 × zMs)))))) fun j40 =>
st (fun (u_ : Unit) => (j40 (0 : Int32) : Option ((Int32 × Int32) ⊕ ((Int32 × Int32) ⊕ ((Int32 × zMs) ⊕ (Int32 × zMs)))))) fun j43 =>
if (q11.2 48 q27.2.toNatClampNeg) = (-1 : Int32) then
j43 ()
else
cl (fX10_isAhead q11.2 q27.2 q19.2) fun r44 =>
if r44 = 0 then
j43 ()
else
j40 (1 : Int32)) : Option ((Int32 × Int32) ⊕ ((Int32 × Int32) ⊕ ((Int32 × zMs) ⊕ (Int32 × zMs)))))) 40000 (x25, x26)
def bX10_high (i_1 : Int32) (i_2 : Int32) : (Int32 × zMs) → Option ((Int32 × zMs) ⊕ (Int32 × zMs)) := fun (q11 : (Int32 × zMs)) =>
if (q11.2 24 0) ≤ q11.1 then
st (-1 : Int32) fun x17 =>
st (0 : Int32) fun x18 =>
lp (fun (q19 : (Int32 × Int32)) => (if (q11.2 24 0) ≤ q19.2 then
some (.inr (.inr ((q19.1, q11.2))))
else
st (0 : Int32) fun x25 =>
st (0 : Int32) fun x26 =>
lp (fun (q27 : (Int32 × Int32)) => (if (q11.2 24 0) ≤ q27.2 then
gd (¬ (q19.2 < 0 ∨ 40 ≤ q19.2.toNatClampNeg)) (
st (fun (y33 : Int32) => (st y33 fun x35 =>
st (q19.2 + (1 : Int32)) fun x36 =>
some (.inr (.inl (x35, x36))) : Option ((Int32 × Int32) ⊕ ((Int32 × Int32) ⊕ ((Int32 × zMs) ⊕ (Int32 × zMs)))))) fun j34 =>
st (fun (u_ : Unit) => (j34 q19.1 : Option ((Int32 × Int32) ⊕ ((Int32 × Int32) ⊕ ((Int32 × zMs) ⊕ (Int32 × zMs)))))) fun j37 =>
if (q11.2 48 q19.2.toNatClampNeg) = (-1 : Int32) then
j37 ()
else
if q27.1 = i_2 then
j34 q19.2
else
j37 ())
else
gd (¬ (q27.2 < 0 ∨ 40 ≤ q27.2.toNatClampNeg)) (
st (fun (y38 : Int32) => (st (q27.1 + y38) fun x41 =>
st (q27.2 + (1 : Int32)) fun x42 =>
some (.inl (x41, x42)) : Option ((Int32 × Int32) ⊕ ((Int32 × Int32) ⊕ ((Int32 × zMs) ⊕ (Int32 × zMs)))))) fun j40 =>
st (fun (u_ : Unit) => (j40 (0 : Int32) : Option ((Int32 × Int32) ⊕ ((Int32 × Int32) ⊕ ((Int32 × zMs) ⊕ (Int32 × zMs)))))) fun j43 =>
if (q11.2 48 q27.2.toNatClampNeg) = (-1 : Int32) then
j43 ()
else
cl (fX10_isAhead q11.2 q27.2 q19.2) fun r44 =>
if r44 = 0 then
j43 ()
else
j40 (1 : Int32)) : Option ((Int32 × Int32) ⊕ ((Int32 × Int32) ⊕ ((Int32 × zMs) ⊕ (Int32 × zMs)))))) 40000 (x25, x26) : Option ((Int32 × Int32) ⊕ ((Int32 × zMs) ⊕ (Int32 × zMs))))) 40000 (x17, x18)
else
gd (¬ (q11.1 < 0 ∨ 40 ≤ q11.1.toNatClampNeg)) (
st (fun (y47 : Int32) (S48 : zMs) => (gd (¬ (q11.1 < 0 ∨ 40 ≤ q11.1.toNatClampNeg)) (
st (pM S48 48 q11.1.toNatClampNeg y47) fun M50 =>
st (q11.1 + (1 : Int32)) fun x51 =>
some (.inl (x51, M50))) : Option ((Int32 × zMs) ⊕ (Int32 × zMs)))) fun j49 =>
st (fun (u_ : Unit) => (j49 (-1 : Int32) q11.2 : Option ((Int32 × zMs) ⊕ (Int32 × zMs)))) fun j52 =>
if (q11.2 25 q11.1.toNatClampNeg) = i_1 then
gd (¬ (q11.1 < 0 ∨ 40 ≤ q11.1.toNatClampNeg)) (
if (q11.2 26 q11.1.toNatClampNeg) = 0 then
cl2 (fX10_replayed q11.2 q11.1 (1 : Int32)) fun r53 M55 =>
j49 r53 M55
else
j52 ())
else
j52 ())
def ah (V : Nat → Int32) (j k : Nat) : Bool := decide (V k < V j ∨ (V j = V k ∧ j < k))
def cA (f : Nat → Bool) : Nat → Nat
  | 0 => 0
  | n + 1 => cA f n + (if f n = true then 1 else 0)
theorem cA_le (f : Nat → Bool) : ∀ n, cA f n ≤ n := by
  intro n
  induction n with
  | zero => exact Nat.le_refl _
  | succ n ih =>
    show cA f n + (if f n = true then 1 else 0) ≤ n + 1
    by_cases e : f n = true
    · rw [if_pos e]; omega
    · rw [if_neg e]; omega
theorem cA_c {f f1 : Nat → Bool} : ∀ {n : Nat}, (∀ k, k < n → f k = f1 k) → cA f n = cA f1 n := by
  intro n
  induction n with
  | zero => intro _; rfl
  | succ n ih =>
    intro h
    show cA f n + (if f n = true then 1 else 0) = cA f1 n + (if f1 n = true then 1 else 0)
    rw [ih (fun k hk => h k (by omega)), h n (by omega)]
theorem cA_m {f f1 : Nat → Bool} : ∀ {n : Nat}, (∀ k, k < n → f k = true → f1 k = true) → cA f n ≤ cA f1 n := by
  intro n
  induction n with
  | zero => intro _; exact Nat.le_refl _
  | succ n ih =>
    intro h
    have := ih (fun k hk => h k (by omega))
    show cA f n + (if f n = true then 1 else 0) ≤ cA f1 n + (if f1 n = true then 1 else 0)
    by_cases e : f n = true
    · rw [if_pos e, if_pos (h n (by omega) e)]; omega
    · rw [if_neg e]; omega
theorem cA_lt {f f1 : Nat → Bool} {k : Nat} (hf : f k = false) (hf1 : f1 k = true) : ∀ {n : Nat}, k < n → (∀ k, k < n → f k = true → f1 k = true) → cA f n < cA f1 n := by
  intro n
  induction n with
  | zero => intro h; omega
  | succ n ih =>
    intro hk h
    show cA f n + (if f n = true then 1 else 0) < cA f1 n + (if f1 n = true then 1 else 0)
    by_cases e0 : k = n
    · subst e0
      have := cA_m (n := k) (fun j hj => h j (by omega))
      rw [hf, hf1]
      simp only [if_true, Bool.false_eq_true, if_false]
      omega
    · have := ih (by omega) (fun k hk => h k (by omega))
      by_cases e : f n = true
      · rw [if_pos e, if_pos (h n (by omega) e)]; omega
      · rw [if_neg e]; omega
theorem ah_tr {V : Nat → Int32} {i j k : Nat} (h1 : ah V i j = true) (h2 : ah V j k = true) : ah V i k = true := by
  unfold ah at *
  have h1 := of_decide_eq_true h1
  have h2 := of_decide_eq_true h2
  apply decide_eq_true
  rcases h1 with h1 | ⟨h1, h1b⟩
  · rcases h2 with h2 | ⟨h2, h2b⟩
    · exact Or.inl (Int32.lt_trans h2 h1)
    · rw [h2] at h1; exact Or.inl h1
  · rcases h2 with h2 | ⟨h2, h2b⟩
    · rw [← h1] at h2; exact Or.inl h2
    · exact Or.inr ⟨h1.trans h2, by omega⟩
theorem ah_ir (V : Nat → Int32) (k : Nat) : ah V k k = false := by
  unfold ah
  apply decide_eq_false
  rintro (h | ⟨-, h⟩)
  · exact Int32.lt_irrefl h
  · omega
theorem ah_to (V : Nat → Int32) {j k : Nat} (h : j ≠ k) : ah V j k = true ∨ ah V k j = true := by
  unfold ah
  by_cases h1 : V k < V j
  · exact Or.inl (decide_eq_true (Or.inl h1))
  · by_cases h2 : V j < V k
    · exact Or.inr (decide_eq_true (Or.inl h2))
    · have e : V j = V k := Int32.le_antisymm (Int32.not_lt.mp h1) (Int32.not_lt.mp h2)
      by_cases h3 : j < k
      · exact Or.inl (decide_eq_true (Or.inr ⟨e, h3⟩))
      · exact Or.inr (decide_eq_true (Or.inr ⟨e.symm, by omega⟩))
theorem cA_ah {V : Nat → Int32} {n j k : Nat} (hj : j < n) (hk : k < n) (h : cA (fun i => ah V i j) n = cA (fun i => ah V i k) n) : j = k := by
  by_cases e : j = k
  · exact e
  · exfalso
    rcases ah_to V e with h1 | h1
    · have := cA_lt (f := fun i => ah V i j) (f1 := fun i => ah V i k) (k := j) (ah_ir V j) h1 hj (fun i _ hi => ah_tr hi h1)
      omega
    · have := cA_lt (f := fun i => ah V i k) (f1 := fun i => ah V i j) (k := k) (ah_ir V k) h1 hk (fun i _ hi => ah_tr hi h1)
      omega
def lst (f : Nat → Bool) : Nat → Int32
  | 0 => -1
  | n + 1 => if f n = true then nI n else lst f n
theorem fst_none {f : Nat → Bool} : ∀ (n k : Nat), (∀ j, k ≤ j → j < k + n → f j = false) → fst f k n = -1 := by
  intro n
  induction n with
  | zero => intro k _; rfl
  | succ n ih =>
    intro k h
    show (if f k = true then nI k else fst f (k + 1) n) = -1
    rw [h k (by omega) (by omega), if_neg (by decide)]
    exact ih (k + 1) (fun j h1 h2 => h j (by omega) (by omega))
theorem fst_at {f : Nat → Bool} {m : Nat} (hm : f m = true) : ∀ (n k : Nat), k ≤ m → m < k + n → (∀ j, k ≤ j → j < m → f j = false) → fst f k n = nI m := by
  intro n
  induction n with
  | zero => intro k h1 h2; omega
  | succ n ih =>
    intro k h1 h2 h
    show (if f k = true then nI k else fst f (k + 1) n) = nI m
    by_cases e : k = m
    · rw [e, if_pos hm]
    · rw [h k (by omega) (by omega), if_neg (by decide)]
      exact ih (k + 1) (by omega) (by omega) (fun j h3 h4 => h j (by omega) h4)
theorem lst_none {f : Nat → Bool} : ∀ (n : Nat), (∀ j, j < n → f j = false) → lst f n = -1 := by
  intro n
  induction n with
  | zero => intro _; rfl
  | succ n ih =>
    intro h
    show (if f n = true then nI n else lst f n) = -1
    rw [h n (by omega), if_neg (by decide)]
    exact ih (fun j h1 => h j (by omega))
theorem lst_at {f : Nat → Bool} {m : Nat} (hm : f m = true) : ∀ (n : Nat), m < n → (∀ j, j < n → f j = true → j = m) → lst f n = nI m := by
  intro n
  induction n with
  | zero => intro h; omega
  | succ n ih =>
    intro h1 h
    show (if f n = true then nI n else lst f n) = nI m
    by_cases e : f n = true
    · rw [if_pos e, h n (by omega) e]
    · rw [if_neg e]
      refine ih ?_ (fun j h2 h3 => h j (by omega) h3)
      by_cases e2 : m = n
      · rw [e2] at hm; exact absurd hm e
      · omega
theorem fst_lst {f : Nat → Bool} {n : Nat} (hu : ∀ j k, j < n → k < n → f j = true → f k = true → j = k) : fst f 0 n = lst f n := by
  by_cases h : ∃ m, m < n ∧ f m = true
  · obtain ⟨m, hm, hf⟩ := h
    rw [lst_at hf n hm (fun j hj hfj => hu j m hj hm hfj hf)]
    refine fst_at hf n 0 (by omega) (by omega) (fun j _ hj => ?_)
    by_cases e : f j = true
    · have := hu j m (by omega) hm e hf; omega
    · exact Bool.eq_false_iff.mpr e
  · have hn : ∀ j, j < n → f j = false := fun j hj => by
      by_cases e : f j = true
      · exact absurd ⟨j, hj, e⟩ h
      · exact Bool.eq_false_iff.mpr e
    rw [lst_none n hn, fst_none n 0 (fun j _ hj => hn j (by omega))]
theorem cl_of {α β : Type} {o : Option α} {v : α} (h : o = some v) {k : α → Option β} {r : Option β} (hk : k v = r) : cl o k = r := by rw [h]; exact hk
section PH
variable {S S1 S0 : zSt} {M M1 M0 : zMs} {a b g d k : Nat}
theorem cnt_eq (h : Tie S M) {V : Nat → Int32} (hV : ∀ i, i < nG M → zI S (22, 0, 0) i = V i) {k : Nat} (hk : k < nG M) : fX9_countAhead S (nI k) = some (nI (cA (fun i => ah V i k) (nG M))) := by
  have hg4 := nG40 h.1
  unfold fX9_countAhead
  rw [st_s, if_neg (nI_pos (by omega)), c40I, if_pos (nI_lt (by omega) (by omega)), st_s, st_s]
  show lp (bX9_cnt S (nI k)) 40000 (0, 0) = _
  refine lp_up (fun j => (nI (cA (fun i => ah V i k) j), nI j)) (nG M) (by omega) ?_ (fun j hj => ?_) ?_
  · show _ = (nI 0, nI 0)
    rw [nI_0]
  · have e : cA (fun i => ah V i k) (j + 1) = cA (fun i => ah V i k) j + (if ah V j k = true then 1 else 0) := rfl
    have ge : ¬ nI (nG M) ≤ nI j := nI_ge hj (by omega)
    unfold bX9_cnt
    by_cases h1 : V k < V j
    · rw [show ah V j k = true from decide_eq_true (Or.inl h1), if_pos rfl] at e
      simp (disch := omega) only [Nat.add_sub_cancel, nI_0, c2I, c3I, c4I, c6I, c8I, c9I, c10I, c15I, c16I, c20I, c30I, c40I, c48I, c60I, c100I, c120I, c159I, c160I, c239I, c240I, c256I, c300I, c318I, c320I, c720I, c840I, c960I, c2520I, c36000I, c1048576I, nI_1, nI_add, pk_mul, nI_pred1, nI_pm1, pk_sub, pk_div, nI_clamp, nI_lz, nI_leI, nI_ltI, nI_eq, nI_z, nI_lez, nI_gez, nI_gtz, nI_m, nI_m2, nI_lem, nI_ltm, nleF, leT, ltT, ltF, eqT, eqF, false_or, or_false, not_false_eq_true, not_true_eq_false, gd_T, st_q, cl_q, cl2_q, cxr_q, cxl_q, i10, if_true, if_false, Bool.false_eq_true, zLs_size (ls1 h), ge, hV k hk, hV j hj, h1, e]
    · by_cases h2 : V j = V k
      · by_cases h3 : j < k
        · rw [show ah V j k = true from decide_eq_true (Or.inr ⟨h2, h3⟩), if_pos rfl] at e
          simp (disch := omega) only [Nat.add_sub_cancel, nI_0, c2I, c3I, c4I, c6I, c8I, c9I, c10I, c15I, c16I, c20I, c30I, c40I, c48I, c60I, c100I, c120I, c159I, c160I, c239I, c240I, c256I, c300I, c318I, c320I, c720I, c840I, c960I, c2520I, c36000I, c1048576I, nI_1, nI_add, pk_mul, nI_pred1, nI_pm1, pk_sub, pk_div, nI_clamp, nI_lz, nI_leI, nI_ltI, nI_eq, nI_z, nI_lez, nI_gez, nI_gtz, nI_m, nI_m2, nI_lem, nI_ltm, nleF, leT, ltT, ltF, eqT, eqF, false_or, or_false, not_false_eq_true, not_true_eq_false, gd_T, st_q, cl_q, cl2_q, cxr_q, cxl_q, i10, if_true, if_false, Bool.false_eq_true, zLs_size (ls1 h), ge, hV k hk, hV j hj, h2, Int32.lt_irrefl, e]
        · rw [show ah V j k = false from decide_eq_false (fun q => q.elim h1 (fun q => h3 q.2)), if_neg (by decide)] at e
          have e := e.trans (Nat.add_zero _)
          simp (disch := omega) only [Nat.add_sub_cancel, nI_0, c2I, c3I, c4I, c6I, c8I, c9I, c10I, c15I, c16I, c20I, c30I, c40I, c48I, c60I, c100I, c120I, c159I, c160I, c239I, c240I, c256I, c300I, c318I, c320I, c720I, c840I, c960I, c2520I, c36000I, c1048576I, nI_1, nI_add, pk_mul, nI_pred1, nI_pm1, pk_sub, pk_div, nI_clamp, nI_lz, nI_leI, nI_ltI, nI_eq, nI_z, nI_lez, nI_gez, nI_gtz, nI_m, nI_m2, nI_lem, nI_ltm, nleF, leT, ltT, ltF, eqT, eqF, false_or, or_false, not_false_eq_true, not_true_eq_false, gd_T, st_q, cl_q, cl2_q, cxr_q, cxl_q, i10, if_true, if_false, Bool.false_eq_true, zLs_size (ls1 h), ge, hV k hk, hV j hj, h2, Int32.lt_irrefl, e]
      · rw [show ah V j k = false from decide_eq_false (fun q => q.elim h1 (fun q => h2 q.1)), if_neg (by decide)] at e
        have e := e.trans (Nat.add_zero _)
        simp (disch := omega) only [Nat.add_sub_cancel, nI_0, c2I, c3I, c4I, c6I, c8I, c9I, c10I, c15I, c16I, c20I, c30I, c40I, c48I, c60I, c100I, c120I, c159I, c160I, c239I, c240I, c256I, c300I, c318I, c320I, c720I, c840I, c960I, c2520I, c36000I, c1048576I, nI_1, nI_add, pk_mul, nI_pred1, nI_pm1, pk_sub, pk_div, nI_clamp, nI_lz, nI_leI, nI_ltI, nI_eq, nI_z, nI_lez, nI_gez, nI_gtz, nI_m, nI_m2, nI_lem, nI_ltm, nleF, leT, ltT, ltF, eqT, eqF, false_or, or_false, not_false_eq_true, not_true_eq_false, gd_T, st_q, cl_q, cl2_q, cxr_q, cxl_q, i10, if_true, if_false, Bool.false_eq_true, zLs_size (ls1 h), ge, hV k hk, hV j hj, h1, h2, e]
  · unfold bX9_cnt
    simp only [zLs_size (ls1 h), cl_q, Int32.le_refl, if_true]
/-- ranked at t -/
def rkB (M : zMs) (t k : Nat) : Bool := decide (M 25 k = nI t ∧ M 26 k = 0)
theorem ranks_eq (h : Tie S M) (t : Nat) {k : Nat} (hk : k < nG M) : fX9_ranksAt S (nI k) (nI t) = some (if rkB M t k = true then 1 else 0) := by
  have hg4 := nG40 h.1
  have e25 : zI S (3, k, 0) 0 = M 25 k := ag h 25 k hk
  have ge : ¬ nI (nG M) ≤ nI k := nI_ge hk (by omega)
  unfold fX9_ranksAt rkB
  by_cases h1 : M 25 k = nI t
  · by_cases h2 : M 26 k = 0
    · simp only [st_q, nI_pos (show k < 2 ^ 31 by omega), if_false, zLs_size (ls1 h), cl_q, ge, zLs_get (ls1 h) (show nG M ≤ 64 by omega) hk, e25, h1, if_true, isOver_eq h hk, h2, i10, and_self, decide_true]
    · simp only [st_q, nI_pos (show k < 2 ^ 31 by omega), if_false, zLs_size (ls1 h), cl_q, ge, zLs_get (ls1 h) (show nG M ≤ 64 by omega) hk, e25, h1, if_true, isOver_eq h hk, h2, i10, and_false, decide_false, Bool.false_eq_true]
  · simp only [st_q, nI_pos (show k < 2 ^ 31 by omega), if_false, zLs_size (ls1 h), cl_q, ge, zLs_get (ls1 h) (show nG M ≤ 64 by omega) hk, e25, h1, false_and, decide_false, Bool.false_eq_true]
/-- what the rows of valid scores hold -/
def vlOk (M : zMs) (t i : Nat) : Prop := (rkB M t i = true ∧ ∃ s, s ≤ 14000 * 2520 ∧ M 48 i = nI s) ∨ (rkB M t i = false ∧ M 48 i = -1)
def fH (M : zMs) (t : Nat) (p : Int32) (k : Nat) : Bool := rkB M t k && decide (nI (cA (fun i => ah (M 48) i k) (nG M)) = p)
theorem high9 (h : Tie S M) (t : Nat) (p : Int32) (hV : ∀ i, i < nG M → zI S (22, 0, 0) i = M 48 i) (q : Int32) : lp (bX9_highI (q, S) (nI t) p) 40000 0 = some (.inr (.inr (fst (fH M t p) 0 (nG M), S))) := by
  have hg4 := nG40 h.1
  have main : ∀ dd k fuel, k + dd = nG M → dd < fuel → lp (bX9_highI (q, S) (nI t) p) fuel (nI k) = some (.inr (.inr (fst (fH M t p) k dd, S))) := by
    intro dd
    induction dd with
    | zero =>
      intro k fuel hk hf
      obtain ⟨f, rfl⟩ : ∃ f, fuel = f + 1 := ⟨fuel - 1, by omega⟩
      refine lp_e _ f ?_
      unfold bX9_highI
      simp only [zLs_size (ls1 h), cl_q, show k = nG M by omega, Int32.le_refl, if_true]
      rfl
    | succ dd ih =>
      intro k fuel hk hf
      obtain ⟨f, rfl⟩ : ∃ f, fuel = f + 1 := ⟨fuel - 1, by omega⟩
      have hk1 : k < nG M := by omega
      have ge : ¬ nI (nG M) ≤ nI k := nI_ge hk1 (by omega)
      show _ = some (Sum.inr (Sum.inr ((if fH M t p k = true then nI k else fst (fH M t p) (k + 1) dd), S)))
      by_cases h1 : rkB M t k = true
      · by_cases h2 : nI (cA (fun i => ah (M 48) i k) (nG M)) = p
        · have e : bX9_highI (q, S) (nI t) p (nI k) = some (.inr (.inr (.inr (nI k, S)))) := by
            unfold bX9_highI
            simp only [zLs_size (ls1 h), cl_q, ge, if_false, ranks_eq h t hk1, h1, if_true, st_q, i10, cnt_eq h hV hk1, h2]
          rw [lp_e _ f e, if_pos]
          unfold fH
          rw [h1, decide_eq_true h2]
          rfl
        · have e : bX9_highI (q, S) (nI t) p (nI k) = some (.inl (nI (k + 1))) := by
            unfold bX9_highI
            simp only [zLs_size (ls1 h), cl_q, ge, if_false, ranks_eq h t hk1, h1, if_true, st_q, i10, cnt_eq h hV hk1, h2, nI_1]
          rw [lp_s _ f e, ih (k + 1) f (by omega) (by omega), if_neg]
          unfold fH
          rw [h1, decide_eq_false h2]
          decide
      · have h1f : rkB M t k = false := Bool.eq_false_iff.mpr h1
        have e : bX9_highI (q, S) (nI t) p (nI k) = some (.inl (nI (k + 1))) := by
          unfold bX9_highI
          simp only [zLs_size (ls1 h), cl_q, ge, if_false, ranks_eq h t hk1, h1f, Bool.false_eq_true, if_true, st_q, nI_1]
        rw [lp_s _ f e, ih (k + 1) f (by omega) (by omega), if_neg]
        unfold fH
        rw [h1f, Bool.false_and]
        exact Bool.false_ne_true
  have := main (nG M) 0 40000 (by omega) (by omega)
  rw [nI_0] at this
  exact this
theorem isAhead_eq (M : zMs) {j k : Nat} (hj : j < 40) (hk : k < 40) : fX10_isAhead M (nI j) (nI k) = some (if ah (M 48) j k = true then 1 else 0) := by
  unfold fX10_isAhead ah
  by_cases h2 : M 48 j = M 48 k
  · by_cases h3 : j < k
    · simp (disch := omega) only [Nat.add_sub_cancel, nI_0, c2I, c3I, c4I, c6I, c8I, c9I, c10I, c15I, c16I, c20I, c30I, c40I, c48I, c60I, c100I, c120I, c159I, c160I, c239I, c240I, c256I, c300I, c318I, c320I, c720I, c840I, c960I, c2520I, c36000I, c1048576I, nI_1, nI_add, pk_mul, nI_pred1, nI_pm1, pk_sub, pk_div, nI_clamp, nI_lz, nI_leI, nI_ltI, nI_eq, nI_z, nI_lez, nI_gez, nI_gtz, nI_m, nI_m2, nI_lem, nI_ltm, nleF, leT, ltT, ltF, eqT, eqF, false_or, or_false, not_false_eq_true, not_true_eq_false, gd_T, st_q, cl_q, cl2_q, cxr_q, cxl_q, i10, if_true, if_false, Bool.false_eq_true, h2, Int32.lt_irrefl, true_and, decide_true]
    · simp (disch := omega) only [Nat.add_sub_cancel, nI_0, c2I, c3I, c4I, c6I, c8I, c9I, c10I, c15I, c16I, c20I, c30I, c40I, c48I, c60I, c100I, c120I, c159I, c160I, c239I, c240I, c256I, c300I, c318I, c320I, c720I, c840I, c960I, c2520I, c36000I, c1048576I, nI_1, nI_add, pk_mul, nI_pred1, nI_pm1, pk_sub, pk_div, nI_clamp, nI_lz, nI_leI, nI_ltI, nI_eq, nI_z, nI_lez, nI_gez, nI_gtz, nI_m, nI_m2, nI_lem, nI_ltm, nleF, leT, ltT, ltF, eqT, eqF, false_or, or_false, not_false_eq_true, not_true_eq_false, gd_T, st_q, cl_q, cl2_q, cxr_q, cxl_q, i10, if_true, if_false, Bool.false_eq_true, h2, Int32.lt_irrefl, true_and, decide_false, Bool.false_eq_true]
  · by_cases h1 : M 48 k < M 48 j
    · simp (disch := omega) only [Nat.add_sub_cancel, nI_0, c2I, c3I, c4I, c6I, c8I, c9I, c10I, c15I, c16I, c20I, c30I, c40I, c48I, c60I, c100I, c120I, c159I, c160I, c239I, c240I, c256I, c300I, c318I, c320I, c720I, c840I, c960I, c2520I, c36000I, c1048576I, nI_1, nI_add, pk_mul, nI_pred1, nI_pm1, pk_sub, pk_div, nI_clamp, nI_lz, nI_leI, nI_ltI, nI_eq, nI_z, nI_lez, nI_gez, nI_gtz, nI_m, nI_m2, nI_lem, nI_ltm, nleF, leT, ltT, ltF, eqT, eqF, false_or, or_false, not_false_eq_true, not_true_eq_false, gd_T, st_q, cl_q, cl2_q, cxr_q, cxl_q, i10, if_true, if_false, Bool.false_eq_true, h2, h1, true_or, decide_true, Int32.not_le.mpr h1]
    · simp (disch := omega) only [Nat.add_sub_cancel, nI_0, c2I, c3I, c4I, c6I, c8I, c9I, c10I, c15I, c16I, c20I, c30I, c40I, c48I, c60I, c100I, c120I, c159I, c160I, c239I, c240I, c256I, c300I, c318I, c320I, c720I, c840I, c960I, c2520I, c36000I, c1048576I, nI_1, nI_add, pk_mul, nI_pred1, nI_pm1, pk_sub, pk_div, nI_clamp, nI_lz, nI_leI, nI_ltI, nI_eq, nI_z, nI_lez, nI_gez, nI_gtz, nI_m, nI_m2, nI_lem, nI_ltm, nleF, leT, ltT, ltF, eqT, eqF, false_or, or_false, not_false_eq_true, not_true_eq_false, gd_T, st_q, cl_q, cl2_q, cxr_q, cxl_q, i10, if_true, if_false, Bool.false_eq_true, h2, h1, false_and, decide_false, Bool.false_eq_true, Int32.not_lt.mp h1]
theorem high10C (h : WM M) (v y : Int32) (p : Int32) (t : Nat) {k : Nat} (hk : k < nG M) (hv : ∀ i, i < nG M → vlOk M t i) : lp (bX10_highC (y, M) (v, nI k) p) 40000 (0, 0) = some (.inl ((if fH M t p k = true then nI k else v), nI (k + 1))) := by
  have hg4 := nG40 h
  have e24 : M 24 0 = nI (nG M) := nG_e h
  refine lp_up (fun j => (nI (cA (fun i => decide (M 48 i ≠ -1) && ah (M 48) i k) j), nI j)) (nG M) (by omega) ?_ (fun j hj => ?_) ?_
  · show _ = (nI 0, nI 0)
    rw [nI_0]
  · have e : cA (fun i => decide (M 48 i ≠ -1) && ah (M 48) i k) (j + 1) = cA (fun i => decide (M 48 i ≠ -1) && ah (M 48) i k) j + (if (decide (M 48 j ≠ -1) && ah (M 48) j k) = true then 1 else 0) := rfl
    have ge : ¬ nI (nG M) ≤ nI j := nI_ge hj (by omega)
    unfold bX10_highC
    by_cases h1 : M 48 j = -1
    · rw [decide_eq_false (fun q => q h1), Bool.false_and, if_neg (by decide)] at e
      have e := e.trans (Nat.add_zero _)
      simp (disch := omega) only [Nat.add_sub_cancel, nI_0, c2I, c3I, c4I, c6I, c8I, c9I, c10I, c15I, c16I, c20I, c30I, c40I, c48I, c60I, c100I, c120I, c159I, c160I, c239I, c240I, c256I, c300I, c318I, c320I, c720I, c840I, c960I, c2520I, c36000I, c1048576I, nI_1, nI_add, pk_mul, nI_pred1, nI_pm1, pk_sub, pk_div, nI_clamp, nI_lz, nI_leI, nI_ltI, nI_eq, nI_z, nI_lez, nI_gez, nI_gtz, nI_m, nI_m2, nI_lem, nI_ltm, nleF, leT, ltT, ltF, eqT, eqF, false_or, or_false, not_false_eq_true, not_true_eq_false, gd_T, st_q, cl_q, cl2_q, cxr_q, cxl_q, i10, if_true, if_false, Bool.false_eq_true, e24, ge, h1, e, Int32.add_zero]
    · rw [decide_eq_true h1, Bool.true_and] at e
      by_cases h2 : ah (M 48) j k = true
      · rw [if_pos h2] at e
        simp (disch := omega) only [Nat.add_sub_cancel, nI_0, c2I, c3I, c4I, c6I, c8I, c9I, c10I, c15I, c16I, c20I, c30I, c40I, c48I, c60I, c100I, c120I, c159I, c160I, c239I, c240I, c256I, c300I, c318I, c320I, c720I, c840I, c960I, c2520I, c36000I, c1048576I, nI_1, nI_add, pk_mul, nI_pred1, nI_pm1, pk_sub, pk_div, nI_clamp, nI_lz, nI_leI, nI_ltI, nI_eq, nI_z, nI_lez, nI_gez, nI_gtz, nI_m, nI_m2, nI_lem, nI_ltm, nleF, leT, ltT, ltF, eqT, eqF, false_or, or_false, not_false_eq_true, not_true_eq_false, gd_T, st_q, cl_q, cl2_q, cxr_q, cxl_q, i10, if_true, if_false, Bool.false_eq_true, e24, ge, h1, isAhead_eq M (show j < 40 by omega) (show k < 40 by omega), h2, e]
      · rw [if_neg h2] at e
        have e := e.trans (Nat.add_zero _)
        simp (disch := omega) only [Nat.add_sub_cancel, nI_0, c2I, c3I, c4I, c6I, c8I, c9I, c10I, c15I, c16I, c20I, c30I, c40I, c48I, c60I, c100I, c120I, c159I, c160I, c239I, c240I, c256I, c300I, c318I, c320I, c720I, c840I, c960I, c2520I, c36000I, c1048576I, nI_1, nI_add, pk_mul, nI_pred1, nI_pm1, pk_sub, pk_div, nI_clamp, nI_lz, nI_leI, nI_ltI, nI_eq, nI_z, nI_lez, nI_gez, nI_gtz, nI_m, nI_m2, nI_lem, nI_ltm, nleF, leT, ltT, ltF, eqT, eqF, false_or, or_false, not_false_eq_true, not_true_eq_false, gd_T, st_q, cl_q, cl2_q, cxr_q, cxl_q, i10, if_true, if_false, Bool.false_eq_true, e24, ge, h1, isAhead_eq M (show j < 40 by omega) (show k < 40 by omega), h2, e, Int32.add_zero]
  · have ck : (nI k).toNatClampNeg = k := nI_clamp (by omega)
    have hk40 : ¬ 40 ≤ k := by omega
    unfold bX10_highC
    rcases hv k hk with ⟨h1, s, hs, e⟩ | ⟨h1, e⟩
    · have hc : cA (fun i => decide (M 48 i ≠ -1) && ah (M 48) i k) (nG M) = cA (fun i => ah (M 48) i k) (nG M) := by
        refine cA_c (fun i hi => ?_)
        by_cases h2 : M 48 i = -1
        · have : ah (M 48) i k = false := by
            unfold ah
            apply decide_eq_false
            rw [h2, e]
            rintro (q | ⟨q, -⟩)
            · exact of_eq_false (nI_ltm (by omega)) q
            · exact of_eq_false (nI_m2 (by omega)) q
          rw [this, Bool.and_false]
        · rw [decide_eq_true h2, Bool.true_and]
      have hne : ¬ M 48 k = -1 := by rw [e]; exact of_eq_false (nI_m (by omega))
      rw [hc]
      unfold fH
      by_cases h3 : nI (cA (fun i => ah (M 48) i k) (nG M)) = p
      · simp only [e24, Int32.le_refl, if_true, ck, nI_pos (show k < 2 ^ 31 by omega), hk40, false_or, not_false_eq_true, gd_T, st_q, hne, if_false, h3, nI_1, h1, Bool.true_and, decide_true]
      · simp only [e24, Int32.le_refl, if_true, ck, nI_pos (show k < 2 ^ 31 by omega), hk40, false_or, not_false_eq_true, gd_T, st_q, hne, if_false, h3, nI_1, h1, Bool.true_and, decide_false, Bool.false_eq_true]
    · unfold fH
      simp only [e24, Int32.le_refl, if_true, ck, nI_pos (show k < 2 ^ 31 by omega), hk40, false_or, not_false_eq_true, gd_T, st_q, e, nI_1, h1, Bool.false_and, Bool.false_eq_true, if_false]
theorem high10F (h : WM M) (y p : Int32) (t : Nat) (hv : ∀ i, i < nG M → vlOk M t i) : lp (bX10_highF (y, M) p) 40000 (-1, 0) = some (.inr (lst (fH M t p) (nG M), M)) := by
  have hg4 := nG40 h
  have e24 : M 24 0 = nI (nG M) := nG_e h
  refine lp_up (fun j => (lst (fH M t p) j, nI j)) (nG M) (by omega) ?_ (fun j hj => ?_) ?_
  · show _ = ((-1 : Int32), nI 0)
    rw [nI_0]
  · have ge : ¬ nI (nG M) ≤ nI j := nI_ge hj (by omega)
    have := high10C h (lst (fH M t p) j) y p t hj hv
    unfold bX10_highF
    dsimp only
    rw [if_neg (show ¬ M 24 0 ≤ nI j from by rw [e24]; exact ge), st_s, st_s]
    exact this
  · unfold bX10_highF
    simp only [e24, Int32.le_refl, if_true]
theorem le_max (x : Int32) : x ≤ 2147483647 := by
  rw [Int32.le_iff_toInt_le]
  have h1 := Int32.toInt_lt x
  have h2 : (2147483647 : Int32).toInt = 2147483647 := by decide
  omega
theorem rkB_e (he : eqM M0 M) (t k : Nat) : rkB M t k = rkB M0 t k := by
  unfold rkB
  rw [he 25 (by unfold visR; omega), he 26 (by unfold visR; omega)]
/-- the valid scores of a table, and what is told at a place -/
def vlV (M : zMs) (t i : Nat) : Int32 := if rkB M t i = true then (plS M i (kept 1 M (ents M i)) pl0).1 else -1
def fV (M : zMs) (t : Nat) (p : Int32) (k : Nat) : Bool := rkB M t k && decide (nI (cA (fun i => ah (vlV M t) i k) (nG M)) = p)
theorem vl_e (he : eqM M0 M) (g : Nat) : (plS M g (kept 1 M (ents M g)) pl0).1 = (plS M0 g (kept 1 M0 (ents M0 g)) pl0).1 := by
  have e1 : (fun (s : plT) (e : Nat) => cls M g (e % 16) s) = fun s e => cls M0 g (e % 16) s := by
    funext s e
    exact cls_g (congrFun (he 28 (by unfold visR; omega)) _) (fun r a b j _ => congrFun (he r (by unfold visR; omega)) _) s
  have e2 : ∀ l, kept 1 M l = kept 1 M0 l := fun l => by
    unfold kept
    rw [he 23 (by unfold visR; omega)]
  unfold plS
  rw [e1, e2, ents_eq (he 26 (by unfold visR; omega)) (he 37 (by unfold visR; omega)) (he 38 (by unfold visR; omega)) (he 39 (by unfold visR; omega)) g]
theorem lst_c {f f1 : Nat → Bool} : ∀ n, (∀ k, k < n → f k = f1 k) → lst f n = lst f1 n := by
  intro n
  induction n with
  | zero => intro _; rfl
  | succ n ih =>
    intro h
    show (if f n = true then nI n else lst f n) = (if f1 n = true then nI n else lst f1 n)
    rw [h n (by omega), ih (fun k hk => h k (by omega))]
theorem high_lp (h0 : Tie S0 M0) (t : Nat) (ht : t < 6) (p : Int32) : ∀ (dd k fuel : Nat) (S : zSt) (M : zMs), k + dd = nG M0 → dd < fuel → eqH S0 S → eqM M0 M → M 0 0 = 0 → (∀ i, i < k → zI S (22, 0, 0) i = M 48 i ∧ vlOk M t i ∧ M 48 i = vlV M0 t i) →
    ∃ S1 M1 v, lp (bX9_high (nI t) p) fuel (nI k, S) = some (.inr (v, S1)) ∧ lp (bX10_high (nI t) p) fuel (nI k, M) = some (v, M1) ∧ eqH S0 S1 ∧ eqM M0 M1 ∧ M1 0 0 = 0 ∧ v = lst (fV M0 t p) (nG M0) := by
  have hg4 := nG40 h0.1
  intro dd
  induction dd with
  | zero =>
    intro k fuel S M hk hf hS hM hm hv
    obtain ⟨f, rfl⟩ : ∃ f, fuel = f + 1 := ⟨fuel - 1, by omega⟩
    have h := tie_hid h0 hS hM
    have eG : nG M = nG M0 := by unfold nG; rw [hM 24 (by unfold visR; omega)]
    have hk : k = nG M := by omega
    have e24 : M 24 0 = nI (nG M) := nG_e h.1
    have hvl : lst (fH M t p) (nG M) = lst (fV M0 t p) (nG M0) := by
      rw [eG]
      refine lst_c (nG M0) (fun j hj => ?_)
      unfold fH fV
      rw [rkB_e hM, eG]
      have ec : cA (fun i => ah (M 48) i j) (nG M0) = cA (fun i => ah (vlV M0 t) i j) (nG M0) := cA_c (fun i hi => by
        unfold ah
        rw [(hv i (by omega)).2.2, (hv j (by omega)).2.2])
      rw [ec]
    refine ⟨S, M, lst (fH M t p) (nG M), lp_e _ f ?_, lp_e _ f ?_, hS, hM, hm, hvl⟩
    · have := high9 h t p (fun i hi => (hv i (by omega)).1) (nI k)
      rw [fst_lst] at this
      · unfold bX9_high
        dsimp only
        refine cl_of (zLs_size (ls1 h)) ?_
        rw [st_s, if_pos (show nI (nG M) ≤ nI k from by rw [hk]; exact Int32.le_refl _), st_s]
        exact this
      · intro i j hi hj f1 f2
        unfold fH at f1 f2
        have g1 := of_decide_eq_true (Bool.and_eq_true_iff.mp f1).2
        have g2 := of_decide_eq_true (Bool.and_eq_true_iff.mp f2).2
        have a1 := cA_le (fun x => ah (M 48) x i) (nG M)
        have a2 := cA_le (fun x => ah (M 48) x j) (nG M)
        exact cA_ah hi hj ((nI_eq (by omega) (by omega)).mp (g1.trans g2.symm))
    · have := high10F h.1 (nI k) p t (fun i hi => (hv i (by omega)).2.1)
      unfold bX10_high
      dsimp only
      rw [if_pos (show M 24 0 ≤ nI k from by rw [e24, hk]; exact Int32.le_refl _), st_s, st_s]
      exact this
  | succ dd ih =>
    intro k fuel S M hk hf hS hM hm hv
    obtain ⟨f, rfl⟩ : ∃ f, fuel = f + 1 := ⟨fuel - 1, by omega⟩
    have h := tie_hid h0 hS hM
    have eG : nG M = nG M0 := by unfold nG; rw [hM 24 (by unfold visR; omega)]
    have hk1 : k < nG M := by omega
    have e24 : M 24 0 = nI (nG M) := nG_e h.1
    have ge : ¬ nI (nG M) ≤ nI k := nI_ge hk1 (by omega)
    have ge4 : ¬ (40 : Int32) ≤ nI k := by rw [c40I]; exact nI_ge (by omega) (by omega)
    have ck : (nI k).toNatClampNeg = k := nI_clamp (by omega)
    have hk40 : ¬ 40 ≤ k := by omega
    have go : ∀ (S1 : zSt) (M1 : zMs) (v : Int32), eqH S S1 → zI S1 (22, 0, 0) = zI S (22, 0, 0) → eqM M M1 → M1 48 = M 48 → M1 0 0 = 0 → ((rkB M t k = true ∧ ∃ s, s ≤ 14000 * 2520 ∧ v = nI s) ∨ (rkB M t k = false ∧ v = -1)) → v = vlV M0 t k → bX9_high (nI t) p (nI k, S) = some (.inl (nI (k + 1), pI S1 (22, 0, 0) k v)) → bX10_high (nI t) p (nI k, M) = some (.inl (nI (k + 1), pM M1 48 k v)) → ∃ S1 M1 v, lp (bX9_high (nI t) p) (f + 1) (nI k, S) = some (.inr (v, S1)) ∧ lp (bX10_high (nI t) p) (f + 1) (nI k, M) = some (v, M1) ∧ eqH S0 S1 ∧ eqM M0 M1 ∧ M1 0 0 = 0 ∧ v = lst (fV M0 t p) (nG M0) := by
      intro S1 M1 v q1 q2 q3 q4 q5 q6 q7 b1 b2
      rw [lp_s _ f b1, lp_s _ f b2]
      have m2 : eqM M0 (pM M1 48 k v) := eqM_t (eqM_t hM q3) (eqM_p (by unfold visR; omega) k v)
      refine ih (k + 1) f _ _ (by omega) (by omega) (eqH_t (eqH_t hS q1) (eqH_p (by unfold hidC; simp) k v)) m2 (by rw [pMn (by omega)]; exact q5) (fun i hi => ?_)
      have er : rkB (pM M1 48 k v) t i = rkB M t i := by rw [rkB_e m2, ← rkB_e hM]
      unfold vlOk
      rw [er, zI_at, pM_at]
      by_cases e : i = k
      · subst e
        rw [if_pos ⟨rfl, rfl⟩, if_pos ⟨rfl, rfl⟩]
        exact ⟨rfl, q6, q7⟩
      · rw [if_neg (fun q => e q.2), if_neg (fun q => e q.2), q2, q4]
        exact hv i (by omega)
    by_cases hr : rkB M t k = true
    · obtain ⟨S1, M1, s1, e1, e2, F, G, hs, hs2⟩ := replay_eq h hk1 1
      have hr2 := of_decide_eq_true hr
      refine go S1 M1 (nI s1) (plF_h F) (F.1 _ (kne (show (22 : Nat) ≠ 6 by decide)) (kne (show (22 : Nat) ≠ 14 by decide)) (kne (show (22 : Nat) ≠ 15 by decide))) (rpF_e G) (G 48 (by omega)) (by rw [G 0 (by omega)]; exact hm) (Or.inl ⟨hr, s1, hs, rfl⟩) (by unfold vlV; rw [if_pos (show rkB M0 t k = true by rw [← rkB_e hM]; exact hr), ← vl_e hM]; exact hs2) ?_ ?_
      · unfold bX9_high
        simp only [zLs_size (ls1 h), cl_q, ge, ge4, if_false, st_q, ranks_eq h t hk1, hr, if_true, i10, zLs_get (ls1 h) (show nG M ≤ 64 by omega) hk1, e1, cl2_q, ck, nI_pos (show k < 2 ^ 31 by omega), hk40, false_or, not_false_eq_true, gd_T, nI_1]
      · unfold bX10_high
        simp only [e24, ge, if_false, ck, nI_pos (show k < 2 ^ 31 by omega), hk40, false_or, not_false_eq_true, gd_T, st_q, hr2.1, hr2.2, if_true, e2, cl2_q, nI_1]
    · have hrf : rkB M t k = false := Bool.eq_false_iff.mpr hr
      have hr2 := of_decide_eq_false hrf
      refine go S M (-1) (eqH_r S) rfl (eqM_r M) rfl hm (Or.inr ⟨hrf, rfl⟩) (by unfold vlV; rw [if_neg (show ¬ rkB M0 t k = true by rw [← rkB_e hM, hrf]; decide)]) ?_ ?_
      · unfold bX9_high
        simp only [zLs_size (ls1 h), cl_q, ge, ge4, if_false, st_q, ranks_eq h t hk1, hrf, Bool.false_eq_true, if_true, ck, nI_pos (show k < 2 ^ 31 by omega), hk40, false_or, not_false_eq_true, gd_T, nI_1]
      · unfold bX10_high
        by_cases h1 : M 25 k = nI t
        · have h2 : ¬ M 26 k = 0 := fun q => hr2 ⟨h1, q⟩
          simp only [e24, ge, if_false, ck, nI_pos (show k < 2 ^ 31 by omega), hk40, false_or, not_false_eq_true, gd_T, st_q, h1, h2, if_true, nI_1]
        · simp only [e24, ge, if_false, ck, nI_pos (show k < 2 ^ 31 by omega), hk40, false_or, not_false_eq_true, gd_T, st_q, h1, nI_1]
theorem ok_high (S : zSt) (M : zMs) (i p : Int32) (h : Tie S M) : zOk Tie [1, 2] (fun y : (Int32 × zSt) => (y.1).toInt64) (fun y : (Int32 × zSt) => y.2) (fX9_high S i p) (fun b : Int32 => b.toInt64) (fX10_high M i p) := by
  have h6 := nT6 h.1
  rcases ixc i (nT M) (by omega) with hi | ⟨t, ht, rfl⟩
  · refine thr h (n := 1) (w := 1) (b := 0) (by simp) (by decide) ?_ ?_
    · unfold fX9_high; rw [dT_out h hi, cx_l]
    · unfold fX10_high
      simp only [isTable_out h.1 hi, cl_q, st_q, if_true, refused_n M i10, cl2_q, i10, if_false]
  · by_cases hp : p < 0
    · have hp2 : ¬ 0 ≤ p := Int32.not_le.mpr hp
      refine thr h (n := 2) (w := 2) (b := 0) (by simp) (by decide) ?_ ?_
      · unfold fX9_high; rw [dT_in h ht, cx_r, dLe_out hp, cx_l]
      · unfold fX10_high
        simp only [isTable_in h.1 ht, cl_q, st_q, if_true, hp2, refused_n M i20, cl2_q, i10, if_false]
    · obtain ⟨S1, M1, v, e1, e2, F, G, q, -⟩ := high_lp h t (by omega) p (nG M) 0 40000 S (pM M 0 0 0) (by omega) (by have := nG40 h.1; omega) (eqH_r S) (eqM_ref 0) rfl (fun i hi => by omega)
      rw [nI_0] at e1 e2
      refine Or.inl ⟨(v, S1), v, M1, ?_, ?_, q, rfl, tie_hid h F G⟩
      · unfold fX9_high
        rw [dT_in h ht, cx_r, dLe_in hp, cx_r, st_s]
        exact e1
      · unfold fX10_high
        rw [isTable_in h.1 ht, cl_s, st_s, if_neg i10, if_pos (Int32.not_lt.mp hp)]
        dsimp only
        rw [refused_0, cl2_s, if_pos rfl, st_s]
        exact e2
end PH
