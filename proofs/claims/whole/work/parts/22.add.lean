def fin {α : Type} (o : Option α) : Option ((Nat × zSt) ⊕ α) := match o with
  | none => none
  | some a => some (.inr a)
theorem op_fin {α : Type} {o : Option α} {y : α} (h : fin o = some (.inr y)) : o = some y := by
  cases o with
  | none => cases h
  | some a => exact congrArg some (Sum.inr.inj (Option.some.inj h))
theorem op_finT {α : Type} {o : Option α} {e : Nat × zSt} (h : fin o = some (.inl e)) : False := by
  cases o with
  | none => cases h
  | some a => cases h
/-- room for one more, if the list's row is full (or there is none yet) -/
def fJ_room (S : zSt) (i j : Nat) : Option zSt :=
  if zN S (0, i, 0) 0 = 0 then
    gd (j = 0 ∧ zV S (23, i, 1) = false) (some (pN (nw S (23, i, 1) (fun _ => 0) (fun _ => 0) (fun _ => none) (fun k => ([10, 0] : List Nat).getD k 0)) (0, i, 0) 0 1))
  else if zN S (23, i, zN S (0, i, 0) 0) 0 = j then
    gd (zV S (23, i, zN S (0, i, 0) 0 + 1) = false ∧ 2 ≤ j ∧ j + j / 2 ≤ 64) (some (pN (nw S (23, i, zN S (0, i, 0) 0 + 1) (fun _ => 0) (fun _ => 0) (fun _ => none) (fun k => ([j + j / 2, j] : List Nat).getD k 0)) (0, i, 0) 0 (zN S (0, i, 0) 0 + 1)))
  else some S
def fJ_add (S : zSt) (i j : Nat) : Option zSt :=
  gd (zI S (0, i, 0) 2 = nI j ∧ j < 64 ∧ zV S (zEl i j) = true ∧ (zN S (0, i, 0) 0 ≠ 0 → zN S (23, i, zN S (0, i, 0) 0) 1 = j ∧ j ≤ zN S (23, i, zN S (0, i, 0) 0) 0 ∧ zN S (23, i, zN S (0, i, 0) 0) 0 ≤ 64)) (
  st (pI S (0, i, 0) 0 (zI S (0, i, 0) 0 + 1)) fun S1 =>
  cl (fJ_room S1 i j) fun S2 =>
  st (pN S2 (23, i, zN S2 (0, i, 0) 0) 1 (j + 1)) fun S3 =>
  st (pI S3 (0, i, 0) 2 (nI j + 1)) fun S4 =>
  some S4)
abbrev rmJa7 : Room := { frames := 7, cells := 1, slots := 64, locals := 200 }
theorem tJ_add (l : Launch) (Γ : zG) (lo : zId → Nat) (S : zSt) (X : va_W) {i j : Nat} (v_z : zV S (0, i, 0) = true) (v_1 : zV S (zEl i j) = true) {y : zSt} (hf : fJ_add S i j = some y) : Met l yJx4a65c_add_9ea2d wsJx4a65c_add_9ea2d rmJa7 (zP2 Γ lo S X [.ref (lo (0, i, 0)), .ref (lo (zEl i j))]) (zQn Γ lo S y X (fun _ => some (.int 1)) (fun _ => True)) 1 64 (zA Γ) := sorry
