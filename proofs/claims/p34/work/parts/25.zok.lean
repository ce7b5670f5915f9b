/-! what one call owes -/
/-- what a law's method answers to a throw: the place among those it lists -/
def kL : List Nat → Nat → Int32
  | [], _ => 0
  | a :: r, n => if n = a then 1 else 1 + kL r n
/-- one call, the class's and the reference's: alike, and tied behind it -/
def zOk (T : zSt → zMs → Prop) {α β : Type} (nums : List Nat) (fv : α → Int64) (fs : α → zSt) (r : Option ((Nat × zSt) ⊕ α)) (gv : β → Int64) (r1 : Option (β × zMs)) : Prop :=
  (∃ y b M1, r = some (.inr y) ∧ r1 = some (b, M1) ∧ M1 0 0 = 0 ∧ fv y = gv b ∧ T (fs y) M1) ∨ (∃ ee b M1, r = some (.inl ee) ∧ r1 = some (b, M1) ∧ ee.1 ∈ nums ∧ M1 0 0 = kL nums ee.1 ∧ T ee.2 M1)
