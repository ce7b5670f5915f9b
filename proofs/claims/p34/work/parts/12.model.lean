/-! THE REFERENCE, as pure functions of its rows (row k: the field k): no object of it stands here -/
abbrev zMs : Type := Nat → Nat → Int32
def pM (M : zMs) (k i : Nat) (v : Int32) : zMs := fun a => if a = k then upd (M a) i v else M a
theorem wd_xset {Γ : zG} {lo : zId → Nat} {S : zSt} {X : va_W} {H : Heap} (h : Wd Γ lo S X H) {k a : Nat} {e0 : va_E} (hk : X[k]? = some (a, e0)) (e1 : va_E) :
    ∃ ws : va_W, ws[k]? = some (a, e0) ∧ va_P Γ.1 vwCl ws H ∧ va_D (zA Γ) ws ∧ ∀ H1 : Heap, va_P Γ.1 vwCl (ws.set k (a, e1)) H1 → va_D (zA Γ) (ws.set k (a, e1)) → Wd Γ lo S (X.set k (a, e1)) H1 := by
  obtain ⟨h1, h2, h3, ws, hP, hD, hn⟩ := h
  have hl : k < X.length := (List.getElem?_eq_some_iff.mp hk).1
  refine ⟨X ++ ws, by rw [List.getElem?_append_left hl]; exact hk, hP, hD, fun H1 hP1 hD1 => ?_⟩
  have hat : ((X ++ ws).set k (a, e1))[k]? = some (a, e1) := List.getElem?_set_self (by rw [List.length_append]; omega)
  have hB : Γ.2.2.1 ≤ a := hD1.2 _ _ hat
  have hz : a < H1.size := (hP1 _ _ hat).lt
  rw [List.set_append_left _ _ hl] at hP1 hD1
  exact ⟨Nat.le_of_lt (Nat.lt_of_le_of_lt hB hz), h2, h3, ws, hP1, hD1, hn⟩
