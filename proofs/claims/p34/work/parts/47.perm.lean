/-! orders of tables, pure -/
def hdP (ord : Nat → Nat) : Nat → Option Nat
  | 0 => none
  | h + 1 => if ord h ≤ ord (h + 1) then some h else hdP ord h
def tlP (ord : Nat → Nat) (h : Nat) : Nat → Nat
  | 0 => 0
  | t + 1 => if ord h ≤ ord (t + 1) then t + 1 else tlP ord h t
def swP (ord : Nat → Nat) (i j : Nat) : Nat → Nat := fun k => if k = j then ord i else if k = i then ord j else ord k
def rvP : Nat → (Nat → Nat) → Nat → Nat → (Nat → Nat)
  | 0, ord, _, _ => ord
  | n + 1, ord, lo, hi => if lo < hi then rvP n (swP ord lo hi) (lo + 1) (hi - 1) else ord
def nxP (c : Nat) (ord : Nat → Nat) : Option (Nat → Nat) := match hdP ord (c - 1) with
  | none => none
  | some h => some (rvP 3 (swP ord h (tlP ord h (c - 1))) (h + 1) (c - 1))
def dec8 : Nat → Nat → Nat
  | n, 0 => n % 8
  | n, k + 1 => dec8 (n / 8) k
def enc8 : Nat → (Nat → Nat) → Nat
  | 0, _ => 0
  | c + 1, ord => ord 0 + 8 * enc8 c (fun k => ord (k + 1))
def itN : Nat → Nat → Nat → Bool
  | 0, c, n => (nxP c (dec8 n)).isNone
  | m + 1, c, n => match nxP c (dec8 n) with
    | none => true
    | some ord => itN m c (enc8 c ord)
def gaP (need : Nat → Bool) : Nat → Nat × (Nat → Nat)
  | 0 => (0, fun _ => 0)
  | n + 1 => if need n = true then ((gaP need n).1 + 1, fun k => if k = (gaP need n).1 then n else (gaP need n).2 k) else gaP need n
def b6 (b0 b1 b2 b3 b4 b5 : Bool) : Nat → Bool := fun k => match k with
  | 0 => b0
  | 1 => b1
  | 2 => b2
  | 3 => b3
  | 4 => b4
  | 5 => b5
  | _ => false
theorem it_k : ∀ b0 b1 b2 b3 b4 b5 : Bool, itN 719 (gaP (b6 b0 b1 b2 b3 b4 b5) 6).1 (enc8 (gaP (b6 b0 b1 b2 b3 b4 b5) 6).1 (gaP (b6 b0 b1 b2 b3 b4 b5) 6).2) = true := by decide +kernel
theorem gaP_c {f f1 : Nat → Bool} : ∀ {n : Nat}, (∀ k, k < n → f k = f1 k) → gaP f n = gaP f1 n := by
  intro n
  induction n with
  | zero => intro _; rfl
  | succ n ih =>
    intro h
    show (if f n = true then ((gaP f n).1 + 1, fun k => if k = (gaP f n).1 then n else (gaP f n).2 k) else gaP f n) = (if f1 n = true then ((gaP f1 n).1 + 1, fun k => if k = (gaP f1 n).1 then n else (gaP f1 n).2 k) else gaP f1 n)
    rw [ih (fun k hk => h k (by omega)), h n (by omega)]
theorem it_6 (need : Nat → Bool) : itN 719 (gaP need 6).1 (enc8 (gaP need 6).1 (gaP need 6).2) = true := by
  have e : gaP need 6 = gaP (b6 (need 0) (need 1) (need 2) (need 3) (need 4) (need 5)) 6 := by
    refine gaP_c (fun k hk => ?_)
    have h6 : k = 0 ∨ k = 1 ∨ k = 2 ∨ k = 3 ∨ k = 4 ∨ k = 5 := by omega
    rcases h6 with rfl | rfl | rfl | rfl | rfl | rfl <;> rfl
  rw [e]
  exact it_k _ _ _ _ _ _
theorem gaP_le (need : Nat → Bool) : ∀ n, (gaP need n).1 ≤ n := by
  intro n
  induction n with
  | zero => exact Nat.le_refl _
  | succ n ih =>
    show (if need n = true then ((gaP need n).1 + 1, fun k => if k = (gaP need n).1 then n else (gaP need n).2 k) else gaP need n).1 ≤ n + 1
    by_cases e : need n = true
    · rw [if_pos e]
      show (gaP need n).1 + 1 ≤ n + 1
      omega
    · rw [if_neg e]; omega
theorem gaP_lt (need : Nat → Bool) : ∀ n k, k < (gaP need n).1 → (gaP need n).2 k < n := by
  intro n
  induction n with
  | zero => intro k hk; exact absurd hk (Nat.not_lt_zero _)
  | succ n ih =>
    intro k
    by_cases e : need n = true
    · have eq : gaP need (n + 1) = ((gaP need n).1 + 1, fun k => if k = (gaP need n).1 then n else (gaP need n).2 k) := if_pos e
      rw [eq]
      intro hk
      have hk : k < (gaP need n).1 + 1 := hk
      show (if k = (gaP need n).1 then n else (gaP need n).2 k) < n + 1
      by_cases e2 : k = (gaP need n).1
      · rw [if_pos e2]; omega
      · rw [if_neg e2]
        have := ih k (by omega)
        omega
    · have eq : gaP need (n + 1) = gaP need n := if_neg e
      rw [eq]
      intro hk
      have := ih k hk
      omega
/-- tables that are not there need nothing -/
theorem gaP_6 {need : Nat → Bool} {n : Nat} (h : ∀ k, n ≤ k → need k = false) : ∀ d, gaP need (n + d) = gaP need n := by
  intro d
  induction d with
  | zero => rfl
  | succ d ih =>
    have eq : gaP need (n + (d + 1)) = gaP need (n + d) := if_neg (show ¬ need (n + d) = true by rw [h (n + d) (by omega)]; decide)
    rw [eq, ih]
theorem dec_enc : ∀ (c : Nat) (ord : Nat → Nat) (k : Nat), (∀ k, k < c → ord k < 8) → k < c → dec8 (enc8 c ord) k = ord k := by
  intro c
  induction c with
  | zero => intro ord k _ hk; omega
  | succ c ih =>
    intro ord k hb hk
    have h0 := hb 0 (by omega)
    cases k with
    | zero =>
      show (ord 0 + 8 * enc8 c (fun k => ord (k + 1))) % 8 = ord 0
      omega
    | succ k =>
      show dec8 ((ord 0 + 8 * enc8 c (fun k => ord (k + 1))) / 8) k = ord (k + 1)
      rw [show (ord 0 + 8 * enc8 c (fun k => ord (k + 1))) / 8 = enc8 c (fun k => ord (k + 1)) by omega]
      exact ih (fun k => ord (k + 1)) k (fun k hk => hb (k + 1) (by omega)) (by omega)
theorem swP_b {ord : Nat → Nat} {c B i j : Nat} (h : ∀ k, k < c → ord k < B) (hi : i < c) (hj : j < c) : ∀ k, k < c → swP ord i j k < B := by
  intro k hk
  unfold swP
  by_cases e : k = j
  · rw [if_pos e]; exact h i hi
  · rw [if_neg e]
    by_cases e2 : k = i
    · rw [if_pos e2]; exact h j hj
    · rw [if_neg e2]; exact h k hk
theorem rvP_b {c B : Nat} : ∀ (n : Nat) (ord : Nat → Nat) (lo hi : Nat), (∀ k, k < c → ord k < B) → hi < c → ∀ k, k < c → rvP n ord lo hi k < B := by
  intro n
  induction n with
  | zero => intro ord lo hi h _; exact h
  | succ n ih =>
    intro ord lo hi h hc k hk
    show (if lo < hi then rvP n (swP ord lo hi) (lo + 1) (hi - 1) else ord) k < B
    by_cases e : lo < hi
    · rw [if_pos e]
      exact ih (swP ord lo hi) (lo + 1) (hi - 1) (swP_b h (by omega) hc) (by omega) k hk
    · rw [if_neg e]; exact h k hk
theorem hdP_lt {ord : Nat → Nat} : ∀ {n h : Nat}, hdP ord n = some h → h < n ∧ ord h ≤ ord (h + 1) := by
  intro n
  induction n with
  | zero => intro h e; cases e
  | succ n ih =>
    intro h e
    have e : (if ord n ≤ ord (n + 1) then some n else hdP ord n) = some h := e
    by_cases q : ord n ≤ ord (n + 1)
    · rw [if_pos q] at e
      cases e
      exact ⟨Nat.lt_succ_self _, q⟩
    · rw [if_neg q] at e
      obtain ⟨h1, h2⟩ := ih e
      exact ⟨by omega, h2⟩
theorem tlP_lt {ord : Nat → Nat} {h : Nat} (hh : ord h ≤ ord (h + 1)) : ∀ {n : Nat}, h < n → h < tlP ord h n ∧ tlP ord h n ≤ n := by
  intro n
  induction n with
  | zero => intro q; omega
  | succ n ih =>
    intro q
    show h < (if ord h ≤ ord (n + 1) then n + 1 else tlP ord h n) ∧ (if ord h ≤ ord (n + 1) then n + 1 else tlP ord h n) ≤ n + 1
    by_cases e : ord h ≤ ord (n + 1)
    · rw [if_pos e]; omega
    · rw [if_neg e]
      have hn : h < n := by
        by_cases e2 : h = n
        · rw [← e2] at e; exact absurd hh e
        · omega
      have := ih hn
      omega
theorem nxP_b {ord ord1 : Nat → Nat} {c B : Nat} (h : ∀ k, k < c → ord k < B) (e : nxP c ord = some ord1) : ∀ k, k < c → ord1 k < B := by
  unfold nxP at e
  cases hh : hdP ord (c - 1) with
  | none => rw [hh] at e; cases e
  | some q =>
    rw [hh] at e
    cases e
    obtain ⟨h1, h2⟩ := hdP_lt hh
    obtain ⟨h3, h4⟩ := tlP_lt h2 h1
    exact rvP_b 3 _ _ _ (swP_b h (by omega) (by omega)) (by omega)
