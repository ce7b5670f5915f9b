/-! orders of tables, pure -/
def hdP (ord : Nat → Nat) : Nat → Option Nat
  | 0 => none
  | h + 1 => if ord h ≤ ord (h + 1) then some h else hdP ord h
def tlP (ord : Nat → Nat) (h : Nat) : Nat → Nat
  | 0 => 0
  | t + 1 => if ord h ≤ ord (t + 1) then t + 1 else tlP ord h t
def swP (ord : Nat → Nat) (i j : Nat) : Nat → Nat := fun k => if k = j then ord i else if k = i then ord j else ord k
def rvP : Nat → (Nat → Nat) → Nat → Nat → (Nat → Nat)
  | 0, ord, _, _ => ord
  | n + 1, ord, lo, hi => if lo < hi then rvP n (swP ord lo hi) (lo + 1) (hi - 1) else ord
def nxP (c : Nat) (ord : Nat → Nat) : Option (Nat → Nat) := match hdP ord (c - 1) with
  | none => none
  | some h => some (rvP 3 (swP ord h (tlP ord h (c - 1))) (h + 1) (c - 1))
def dec8 : Nat → Nat → Nat
  | n, 0 => n % 8
  | n, k + 1 => dec8 (n / 8) k
def enc8 : Nat → (Nat → Nat) → Nat
  | 0, _ => 0
  | c + 1, ord => ord 0 + 8 * enc8 c (fun k => ord (k + 1))
def itN : Nat → Nat → Nat → Bool
  | 0, c, n => (nxP c (dec8 n)).isNone
  | m + 1, c, n => match nxP c (dec8 n) with
    | none => true
    | some ord => itN m c (enc8 c ord)
def gaP (need : Nat → Bool) : Nat → Nat × (Nat → Nat)
  | 0 => (0, fun _ => 0)
  | n + 1 => if need n = true then ((gaP need n).1 + 1, fun k => if k = (gaP need n).1 then n else (gaP need n).2 k) else gaP need n
def b6 (b0 b1 b2 b3 b4 b5 : Bool) : Nat → Bool := fun k => match k with
  | 0 => b0
  | 1 => b1
  | 2 => b2
  | 3 => b3
  | 4 => b4
  | 5 => b5
  | _ => false
theorem it_k : ∀ b0 b1 b2 b3 b4 b5 : Bool, itN 719 (gaP (b6 b0 b1 b2 b3 b4 b5) 6).1 (enc8 (gaP (b6 b0 b1 b2 b3 b4 b5) 6).1 (gaP (b6 b0 b1 b2 b3 b4 b5) 6).2) = true := by decide +kernel
theorem gaP_c {f f1 : Nat → Bool} : ∀ {n : Nat}, (∀ k, k < n → f k = f1 k) → gaP f n = gaP f1 n := by
  intro n
  induction n with
  | zero => intro _; rfl
  | succ n ih =>
    intro h
    show (if f n = true then ((gaP f n).1 + 1, fun k => if k = (gaP f n).1 then n else (gaP f n).2 k) else gaP f n) = (if f1 n = true then ((gaP f1 n).1 + 1, fun k => if k = (gaP f1 n).1 then n else (gaP f1 n).2 k) else gaP f1 n)
    rw [ih (fun k hk => h k (by omega)), h n (by omega)]
theorem it_6 (need : Nat → Bool) : itN 719 (gaP need 6).1 (enc8 (gaP need 6).1 (gaP need 6).2) = true := by
  have e : gaP need 6 = gaP (b6 (need 0) (need 1) (need 2) (need 3) (need 4) (need 5)) 6 := by
    refine gaP_c (fun k hk => ?_)
    have h6 : k = 0 ∨ k = 1 ∨ k = 2 ∨ k = 3 ∨ k = 4 ∨ k = 5 := by omega
    rcases h6 with rfl | rfl | rfl | rfl | rfl | rfl <;> rfl
  rw [e]
  exact it_k _ _ _ _ _ _
theorem gaP_le (need : Nat → Bool) : ∀ n, (gaP need n).1 ≤ n := by
  intro n
  induction n with
  | zero => exact Nat.le_refl _
  | succ n ih =>
    show (if need n = true then ((gaP need n).1 + 1, fun k => if k = (gaP need n).1 then n else (gaP need n).2 k) else gaP need n).1 ≤ n + 1
    by_cases e : need n = true
    · rw [if_pos e]
      show (gaP need n).1 + 1 ≤ n + 1
      omega
    · rw [if_neg e]; omega
theorem gaP_lt (need : Nat → Bool) : ∀ n k, k < (gaP need n).1 → (gaP need n).2 k < n := by
  intro n
  induction n with
  | zero => intro k hk; exact absurd hk (Nat.not_lt_zero _)
  | succ n ih =>
    intro k
    by_cases e : need n = true
    · have eq : gaP need (n + 1) = ((gaP need n).1 + 1, fun k => if k = (gaP need n).1 then n else (gaP need n).2 k) := if_pos e
      rw [eq]
      intro hk
      have hk : k < (gaP need n).1 + 1 := hk
      show (if k = (gaP need n).1 then n else (gaP need n).2 k) < n + 1
      by_cases e2 : k = (gaP need n).1
      · rw [if_pos e2]; omega
      · rw [if_neg e2]
        have := ih k (by omega)
        omega
    · have eq : gaP need (n + 1) = gaP need n := if_neg e
      rw [eq]
      intro hk
      have := ih k hk
      omega
/-- tables that are not there need nothing -/
theorem gaP_6 {need : Nat → Bool} {n : Nat} (h : ∀ k, n ≤ k → need k = false) : ∀ d, gaP need (n + d) = gaP need n := by
  intro d
  induction d with
  | zero => rfl
  | succ d ih =>
    have eq : gaP need (n + (d + 1)) = gaP need (n + d) := if_neg (show ¬ need (n + d) = true by rw [h (n + d) (by omega)]; decide)
    rw [eq, ih]
theorem dec_enc : ∀ (c : Nat) (ord : Nat → Nat) (k : Nat), (∀ k, k < c → ord k < 8) → k < c → dec8 (enc8 c ord) k = ord k := by
  intro c
  induction c with
  | zero => intro ord k _ hk; omega
  | succ c ih =>
    intro ord k hb hk
    have h0 := hb 0 (by omega)
    cases k with
    | zero =>
      show (ord 0 + 8 * enc8 c (fun k => ord (k + 1))) % 8 = ord 0
      omega
    | succ k =>
      show dec8 ((ord 0 + 8 * enc8 c (fun k => ord (k + 1))) / 8) k = ord (k + 1)
      rw [show (ord 0 + 8 * enc8 c (fun k => ord (k + 1))) / 8 = enc8 c (fun k => ord (k + 1)) by omega]
      exact ih (fun k => ord (k + 1)) k (fun k hk => hb (k + 1) (by omega)) (by omega)
theorem swP_b {ord : Nat → Nat} {c B i j : Nat} (h : ∀ k, k < c → ord k < B) (hi : i < c) (hj : j < c) : ∀ k, k < c → swP ord i j k < B := by
  intro k hk
  unfold swP
  by_cases e : k = j
  · rw [if_pos e]; exact h i hi
  · rw [if_neg e]
    by_cases e2 : k = i
    · rw [if_pos e2]; exact h j hj
    · rw [if_neg e2]; exact h k hk
theorem rvP_b {c B : Nat} : ∀ (n : Nat) (ord : Nat → Nat) (lo hi : Nat), (∀ k, k < c → ord k < B) → hi < c → ∀ k, k < c → rvP n ord lo hi k < B := by
  intro n
  induction n with
  | zero => intro ord lo hi h _; exact h
  | succ n ih =>
    intro ord lo hi h hc k hk
    show (if lo < hi then rvP n (swP ord lo hi) (lo + 1) (hi - 1) else ord) k < B
    by_cases e : lo < hi
    · rw [if_pos e]
      exact ih (swP ord lo hi) (lo + 1) (hi - 1) (swP_b h (by omega) hc) (by omega) k hk
    · rw [if_neg e]; exact h k hk
theorem hdP_lt {ord : Nat → Nat} : ∀ {n h : Nat}, hdP ord n = some h → h < n ∧ ord h ≤ ord (h + 1) := by
  intro n
  induction n with
  | zero => intro h e; cases e
  | succ n ih =>
    intro h e
    have e : (if ord n ≤ ord (n + 1) then some n else hdP ord n) = some h := e
    by_cases q : ord n ≤ ord (n + 1)
    · rw [if_pos q] at e
      cases e
      exact ⟨Nat.lt_succ_self _, q⟩
    · rw [if_neg q] at e
      obtain ⟨h1, h2⟩ := ih e
      exact ⟨by omega, h2⟩
theorem tlP_lt {ord : Nat → Nat} {h : Nat} (hh : ord h ≤ ord (h + 1)) : ∀ {n : Nat}, h < n → h < tlP ord h n ∧ tlP ord h n ≤ n := by
  intro n
  induction n with
  | zero => intro q; omega
  | succ n ih =>
    intro q
    show h < (if ord h ≤ ord (n + 1) then n + 1 else tlP ord h n) ∧ (if ord h ≤ ord (n + 1) then n + 1 else tlP ord h n) ≤ n + 1
    by_cases e : ord h ≤ ord (n + 1)
    · rw [if_pos e]; omega
    · rw [if_neg e]
      have hn : h < n := by
        by_cases e2 : h = n
        · rw [← e2] at e; exact absurd hh e
        · omega
      have := ih hn
      omega
theorem nxP_b {ord ord1 : Nat → Nat} {c B : Nat} (h : ∀ k, k < c → ord k < B) (e : nxP c ord = some ord1) : ∀ k, k < c → ord1 k < B := by
  unfold nxP at e
  cases hh : hdP ord (c - 1) with
  | none => rw [hh] at e; cases e
  | some q =>
    rw [hh] at e
    cases e
    obtain ⟨h1, h2⟩ := hdP_lt hh
    obtain ⟨h3, h4⟩ := tlP_lt h2 h1
    exact rvP_b 3 _ _ _ (swP_b h (by omega) (by omega)) (by omega)
/-- an order of all that Q holds of -/
def Pm (c : Nat) (Q : Nat → Prop) (ord : Nat → Nat) : Prop := (∀ i j, i < c → j < c → ord i = ord j → i = j) ∧ (∀ k, k < c → Q (ord k)) ∧ ∀ t, Q t → ∃ k, k < c ∧ ord k = t
theorem Pm_c {c : Nat} {Q : Nat → Prop} {ord ord1 : Nat → Nat} (h : Pm c Q ord) (e : ∀ k, k < c → ord1 k = ord k) : Pm c Q ord1 :=
  ⟨fun i j hi hj q => h.1 i j hi hj (by rw [← e i hi, ← e j hj]; exact q), fun k hk => by rw [e k hk]; exact h.2.1 k hk, fun t ht => by
    obtain ⟨k, hk, q⟩ := h.2.2 t ht
    exact ⟨k, hk, by rw [e k hk]; exact q⟩⟩
theorem Pm_q {c : Nat} {Q Q1 : Nat → Prop} {ord : Nat → Nat} (h : Pm c Q ord) (e : ∀ t, Q t ↔ Q1 t) : Pm c Q1 ord :=
  ⟨h.1, fun k hk => (e _).mp (h.2.1 k hk), fun t ht => h.2.2 t ((e t).mpr ht)⟩
def swK (i j k : Nat) : Nat := if k = j then i else if k = i then j else k
theorem swK_e (ord : Nat → Nat) (i j k : Nat) : swP ord i j k = ord (swK i j k) := by
  unfold swP swK
  by_cases e : k = j
  · rw [if_pos e, if_pos e]
  · rw [if_neg e, if_neg e]
    by_cases e2 : k = i
    · rw [if_pos e2, if_pos e2]
    · rw [if_neg e2, if_neg e2]
theorem swK_k (i j k : Nat) : swK i j (swK i j k) = k := by
  unfold swK
  by_cases e : k = j
  · rw [if_pos e]
    by_cases e1 : i = j
    · rw [if_pos e1]; omega
    · rw [if_neg e1, if_pos rfl]; omega
  · rw [if_neg e]
    by_cases e2 : k = i
    · rw [if_pos e2, if_pos rfl]; omega
    · rw [if_neg e2, if_neg e, if_neg e2]
theorem swK_lt {c i j k : Nat} (hi : i < c) (hj : j < c) (hk : k < c) : swK i j k < c := by
  unfold swK
  by_cases e : k = j
  · rw [if_pos e]; exact hi
  · rw [if_neg e]
    by_cases e2 : k = i
    · rw [if_pos e2]; exact hj
    · rw [if_neg e2]; exact hk
theorem swP_m {c i j : Nat} {Q : Nat → Prop} {ord : Nat → Nat} (h : Pm c Q ord) (hi : i < c) (hj : j < c) : Pm c Q (swP ord i j) := by
  refine ⟨fun x y hx hy q => ?_, fun k hk => ?_, fun t ht => ?_⟩
  · rw [swK_e, swK_e] at q
    have := h.1 _ _ (swK_lt hi hj hx) (swK_lt hi hj hy) q
    rw [← swK_k i j x, this, swK_k]
  · rw [swK_e]; exact h.2.1 _ (swK_lt hi hj hk)
  · obtain ⟨k, hk, q⟩ := h.2.2 t ht
    exact ⟨swK i j k, swK_lt hi hj hk, by rw [swK_e, swK_k]; exact q⟩
theorem rvP_m {c : Nat} {Q : Nat → Prop} : ∀ (n : Nat) (ord : Nat → Nat) (lo hi : Nat), Pm c Q ord → hi < c → Pm c Q (rvP n ord lo hi) := by
  intro n
  induction n with
  | zero => intro ord lo hi h _; exact h
  | succ n ih =>
    intro ord lo hi h hc
    show Pm c Q (if lo < hi then rvP n (swP ord lo hi) (lo + 1) (hi - 1) else ord)
    by_cases e : lo < hi
    · rw [if_pos e]
      exact ih (swP ord lo hi) (lo + 1) (hi - 1) (swP_m h (by omega) hc) (by omega)
    · rw [if_neg e]; exact h
theorem nxP_m {ord ord1 : Nat → Nat} {c : Nat} {Q : Nat → Prop} (h : Pm c Q ord) (e : nxP c ord = some ord1) : Pm c Q ord1 := by
  unfold nxP at e
  cases hh : hdP ord (c - 1) with
  | none => rw [hh] at e; cases e
  | some q =>
    rw [hh] at e
    cases e
    obtain ⟨h1, h2⟩ := hdP_lt hh
    obtain ⟨h3, h4⟩ := tlP_lt h2 h1
    exact rvP_m 3 _ _ _ (swP_m h (by omega) (by omega)) (by omega)
theorem gaP_m (need : Nat → Bool) : ∀ n, Pm (gaP need n).1 (fun t => t < n ∧ need t = true) (gaP need n).2 := by
  intro n
  induction n with
  | zero => exact ⟨fun i j hi => absurd hi (Nat.not_lt_zero _), fun k hk => absurd hk (Nat.not_lt_zero _), fun t ht => absurd ht.1 (Nat.not_lt_zero _)⟩
  | succ n ih =>
    obtain ⟨i1, i2, i3⟩ := ih
    by_cases e : need n = true
    · have eg : gaP need (n + 1) = ((gaP need n).1 + 1, fun k => if k = (gaP need n).1 then n else (gaP need n).2 k) := if_pos e
      rw [eg]
      show Pm ((gaP need n).1 + 1) (fun t => t < n + 1 ∧ need t = true) (fun k => if k = (gaP need n).1 then n else (gaP need n).2 k)
      generalize (gaP need n).1 = c at *
      generalize (gaP need n).2 = ord at *
      refine ⟨fun i j hi hj q => ?_, fun k hk => ?_, fun t ht => ?_⟩
      · have q : (if i = c then n else ord i) = (if j = c then n else ord j) := q
        by_cases ei : i = c
        · by_cases ej : j = c
          · omega
          · rw [if_pos ei, if_neg ej] at q
            have := (i2 j (by omega)).1
            omega
        · by_cases ej : j = c
          · rw [if_neg ei, if_pos ej] at q
            have := (i2 i (by omega)).1
            omega
          · rw [if_neg ei, if_neg ej] at q
            exact i1 i j (by omega) (by omega) q
      · show (if k = c then n else ord k) < n + 1 ∧ need (if k = c then n else ord k) = true
        by_cases ek : k = c
        · rw [if_pos ek]; exact ⟨by omega, e⟩
        · rw [if_neg ek]
          have := i2 k (by omega)
          exact ⟨by omega, this.2⟩
      · by_cases et : t = n
        · exact ⟨c, by omega, by show (if c = c then n else ord c) = t; rw [if_pos rfl, et]⟩
        · obtain ⟨k, hk, q⟩ := i3 t ⟨by have := ht.1; omega, ht.2⟩
          exact ⟨k, by omega, by show (if k = c then n else ord k) = t; rw [if_neg (by omega)]; exact q⟩
    · have eg : gaP need (n + 1) = gaP need n := if_neg e
      rw [eg]
      refine ⟨i1, fun k hk => ?_, fun t ht => ?_⟩
      · have := i2 k hk
        exact ⟨by omega, this.2⟩
      · refine i3 t ⟨?_, ht.2⟩
        by_cases et : t = n
        · rw [et] at ht; exact absurd ht.2 e
        · have := ht.1; omega
