/-! THE REFERENCE: one object (slot k: the field k), its rows (q (k + 1): the row of the field k) -/
abbrev zMs : Type := Nat → Nat → Int32
def pM (M : zMs) (k i : Nat) (v : Int32) : zMs := fun a => if a = k then upd (M a) i v else M a
def mfs (q : Nat → Nat) (M : zMs) : List Value := [.int (M 0 0), .int (M 1 0), .ref (q 3), .ref (q 4), .ref (q 5), .ref (q 6), .ref (q 7), .ref (q 8), .ref (q 9), .ref (q 10), .ref (q 11), .ref (q 12), .ref (q 13), .ref (q 14), .ref (q 15), .ref (q 16), .ref (q 17), .ref (q 18), .ref (q 19), .ref (q 20), .ref (q 21), .ref (q 22), .int (M 22 0), .ref (q 24), .int (M 24 0), .ref (q 26), .ref (q 27), .ref (q 28), .ref (q 29), .ref (q 30), .ref (q 31), .ref (q 32), .ref (q 33), .ref (q 34), .ref (q 35), .ref (q 36), .ref (q 37), .ref (q 38), .ref (q 39), .ref (q 40), .int (M 40 0), .int (M 41 0), .int (M 42 0), .ref (q 44), .ref (q 45), .ref (q 46), .ref (q 47), .ref (q 48), .ref (q 49), .ref (q 50), .ref (q 51), .int (M 51 0), .ref (q 53), .ref (q 54), .int (M 54 0)]
def mar (Γ : zG) (q : Nat → Nat) (M : zMs) : va_W := [(q 3, .inl (Γ.2.1 0, 6, .inl (M 2))), (q 4, .inl (Γ.2.1 0, 6, .inl (M 3))), (q 5, .inl (Γ.2.1 0, 6, .inl (M 4))), (q 6, .inl (Γ.2.1 0, 6, .inl (M 5))), (q 7, .inl (Γ.2.1 0, 6, .inl (M 6))), (q 8, .inl (Γ.2.1 0, 6, .inl (M 7))), (q 9, .inl (Γ.2.1 0, 6, .inl (M 8))), (q 10, .inl (Γ.2.1 0, 48, .inl (M 9))), (q 11, .inl (Γ.2.1 0, 48, .inl (M 10))), (q 12, .inl (Γ.2.1 0, 48, .inl (M 11))), (q 13, .inl (Γ.2.1 0, 48, .inl (M 12))), (q 14, .inl (Γ.2.1 0, 48, .inl (M 13))), (q 15, .inl (Γ.2.1 0, 48, .inl (M 14))), (q 16, .inl (Γ.2.1 0, 48, .inl (M 15))), (q 17, .inl (Γ.2.1 0, 48, .inl (M 16))), (q 18, .inl (Γ.2.1 0, 24, .inl (M 17))), (q 19, .inl (Γ.2.1 0, 24, .inl (M 18))), (q 20, .inl (Γ.2.1 0, 24, .inl (M 19))), (q 21, .inl (Γ.2.1 0, 24, .inl (M 20))), (q 22, .inl (Γ.2.1 0, 24, .inl (M 21))), (q 24, .inl (Γ.2.1 2, 60, .inl (M 23))), (q 26, .inl (Γ.2.1 0, 40, .inl (M 25))), (q 27, .inl (Γ.2.1 0, 40, .inl (M 26))), (q 28, .inl (Γ.2.1 0, 40, .inl (M 27))), (q 29, .inl (Γ.2.1 0, 320, .inl (M 28))), (q 30, .inl (Γ.2.1 0, 160, .inl (M 29))), (q 31, .inl (Γ.2.1 0, 160, .inl (M 30))), (q 32, .inl (Γ.2.1 0, 160, .inl (M 31))), (q 33, .inl (Γ.2.1 0, 160, .inl (M 32))), (q 34, .inl (Γ.2.1 0, 160, .inl (M 33))), (q 35, .inl (Γ.2.1 0, 40, .inl (M 34))), (q 36, .inl (Γ.2.1 0, 120, .inl (M 35))), (q 37, .inl (Γ.2.1 0, 120, .inl (M 36))), (q 38, .inl (Γ.2.1 0, 120, .inl (M 37))), (q 39, .inl (Γ.2.1 0, 36000, .inl (M 38))), (q 40, .inl (Γ.2.1 0, 960, .inl (M 39))), (q 44, .inl (Γ.2.1 0, 3, .inl (M 43))), (q 45, .inl (Γ.2.1 0, 3, .inl (M 44))), (q 46, .inl (Γ.2.1 0, 2, .inl (M 45))), (q 47, .inl (Γ.2.1 0, 2, .inl (M 46))), (q 48, .inl (Γ.2.1 0, 2, .inl (M 47))), (q 49, .inl (Γ.2.1 0, 40, .inl (M 48))), (q 50, .inl (Γ.2.1 0, 2, .inl (M 49))), (q 51, .inl (Γ.2.1 0, 4, .inl (M 50))), (q 53, .inl (Γ.2.1 0, 6, .inl (M 52))), (q 54, .inl (Γ.2.1 0, 6, .inl (M 53)))]
def mcl (Γ : zG) (q : Nat → Nat) (M : zMs) : va_W := (q 0, .inr (11, mfs q M)) :: mar Γ q M
theorem wd_xset {Γ : zG} {lo : zId → Nat} {S : zSt} {X : va_W} {H : Heap} (h : Wd Γ lo S X H) {k a : Nat} {e0 : va_E} (hk : X[k]? = some (a, e0)) (e1 : va_E) :
    ∃ ws : va_W, ws[k]? = some (a, e0) ∧ va_P Γ.1 vwCl ws H ∧ va_D (zA Γ) ws ∧ ∀ H1 : Heap, va_P Γ.1 vwCl (ws.set k (a, e1)) H1 → va_D (zA Γ) (ws.set k (a, e1)) → Wd Γ lo S (X.set k (a, e1)) H1 := by
  obtain ⟨h1, h2, h3, ws, hP, hD, hn⟩ := h
  have hl : k < X.length := (List.getElem?_eq_some_iff.mp hk).1
  refine ⟨X ++ ws, by rw [List.getElem?_append_left hl]; exact hk, hP, hD, fun H1 hP1 hD1 => ?_⟩
  have hat : ((X ++ ws).set k (a, e1))[k]? = some (a, e1) := List.getElem?_set_self (by rw [List.length_append]; omega)
  have hB : Γ.2.2.1 ≤ a := hD1.2 _ _ hat
  have hz : a < H1.size := (hP1 _ _ hat).lt
  rw [List.set_append_left _ _ hl] at hP1 hD1
  exact ⟨Nat.le_of_lt (Nat.lt_of_le_of_lt hB hz), h2, h3, ws, hP1, hD1, hn⟩
theorem ms_0 (Γ : zG) (q : Nat → Nat) (M : zMs) (Y : va_W) (v : Int32) : (mcl Γ q M ++ Y).set 0 (q 0, .inr (11, (mfs q M).set 0 (.int v))) = mcl Γ q (pM M 0 0 v) ++ Y := rfl
theorem ms_1 (Γ : zG) (q : Nat → Nat) (M : zMs) (Y : va_W) (v : Int32) : (mcl Γ q M ++ Y).set 0 (q 0, .inr (11, (mfs q M).set 1 (.int v))) = mcl Γ q (pM M 1 0 v) ++ Y := rfl
theorem ms_2 (Γ : zG) (q : Nat → Nat) (M : zMs) (Y : va_W) (i : Nat) (v : Int32) : (mcl Γ q M ++ Y).set 1 (q 3, .inl (Γ.2.1 0, 6, .inl (upd (M 2) i v))) = mcl Γ q (pM M 2 i v) ++ Y := rfl
theorem ms_3 (Γ : zG) (q : Nat → Nat) (M : zMs) (Y : va_W) (i : Nat) (v : Int32) : (mcl Γ q M ++ Y).set 2 (q 4, .inl (Γ.2.1 0, 6, .inl (upd (M 3) i v))) = mcl Γ q (pM M 3 i v) ++ Y := rfl
theorem ms_4 (Γ : zG) (q : Nat → Nat) (M : zMs) (Y : va_W) (i : Nat) (v : Int32) : (mcl Γ q M ++ Y).set 3 (q 5, .inl (Γ.2.1 0, 6, .inl (upd (M 4) i v))) = mcl Γ q (pM M 4 i v) ++ Y := rfl
theorem ms_5 (Γ : zG) (q : Nat → Nat) (M : zMs) (Y : va_W) (i : Nat) (v : Int32) : (mcl Γ q M ++ Y).set 4 (q 6, .inl (Γ.2.1 0, 6, .inl (upd (M 5) i v))) = mcl Γ q (pM M 5 i v) ++ Y := rfl
theorem ms_6 (Γ : zG) (q : Nat → Nat) (M : zMs) (Y : va_W) (i : Nat) (v : Int32) : (mcl Γ q M ++ Y).set 5 (q 7, .inl (Γ.2.1 0, 6, .inl (upd (M 6) i v))) = mcl Γ q (pM M 6 i v) ++ Y := rfl
theorem ms_7 (Γ : zG) (q : Nat → Nat) (M : zMs) (Y : va_W) (i : Nat) (v : Int32) : (mcl Γ q M ++ Y).set 6 (q 8, .inl (Γ.2.1 0, 6, .inl (upd (M 7) i v))) = mcl Γ q (pM M 7 i v) ++ Y := rfl
theorem ms_8 (Γ : zG) (q : Nat → Nat) (M : zMs) (Y : va_W) (i : Nat) (v : Int32) : (mcl Γ q M ++ Y).set 7 (q 9, .inl (Γ.2.1 0, 6, .inl (upd (M 8) i v))) = mcl Γ q (pM M 8 i v) ++ Y := rfl
theorem ms_9 (Γ : zG) (q : Nat → Nat) (M : zMs) (Y : va_W) (i : Nat) (v : Int32) : (mcl Γ q M ++ Y).set 8 (q 10, .inl (Γ.2.1 0, 48, .inl (upd (M 9) i v))) = mcl Γ q (pM M 9 i v) ++ Y := rfl
theorem ms_10 (Γ : zG) (q : Nat → Nat) (M : zMs) (Y : va_W) (i : Nat) (v : Int32) : (mcl Γ q M ++ Y).set 9 (q 11, .inl (Γ.2.1 0, 48, .inl (upd (M 10) i v))) = mcl Γ q (pM M 10 i v) ++ Y := rfl
theorem ms_11 (Γ : zG) (q : Nat → Nat) (M : zMs) (Y : va_W) (i : Nat) (v : Int32) : (mcl Γ q M ++ Y).set 10 (q 12, .inl (Γ.2.1 0, 48, .inl (upd (M 11) i v))) = mcl Γ q (pM M 11 i v) ++ Y := rfl
theorem ms_12 (Γ : zG) (q : Nat → Nat) (M : zMs) (Y : va_W) (i : Nat) (v : Int32) : (mcl Γ q M ++ Y).set 11 (q 13, .inl (Γ.2.1 0, 48, .inl (upd (M 12) i v))) = mcl Γ q (pM M 12 i v) ++ Y := rfl
theorem ms_13 (Γ : zG) (q : Nat → Nat) (M : zMs) (Y : va_W) (i : Nat) (v : Int32) : (mcl Γ q M ++ Y).set 12 (q 14, .inl (Γ.2.1 0, 48, .inl (upd (M 13) i v))) = mcl Γ q (pM M 13 i v) ++ Y := rfl
theorem ms_14 (Γ : zG) (q : Nat → Nat) (M : zMs) (Y : va_W) (i : Nat) (v : Int32) : (mcl Γ q M ++ Y).set 13 (q 15, .inl (Γ.2.1 0, 48, .inl (upd (M 14) i v))) = mcl Γ q (pM M 14 i v) ++ Y := rfl
theorem ms_15 (Γ : zG) (q : Nat → Nat) (M : zMs) (Y : va_W) (i : Nat) (v : Int32) : (mcl Γ q M ++ Y).set 14 (q 16, .inl (Γ.2.1 0, 48, .inl (upd (M 15) i v))) = mcl Γ q (pM M 15 i v) ++ Y := rfl
theorem ms_16 (Γ : zG) (q : Nat → Nat) (M : zMs) (Y : va_W) (i : Nat) (v : Int32) : (mcl Γ q M ++ Y).set 15 (q 17, .inl (Γ.2.1 0, 48, .inl (upd (M 16) i v))) = mcl Γ q (pM M 16 i v) ++ Y := rfl
theorem ms_17 (Γ : zG) (q : Nat → Nat) (M : zMs) (Y : va_W) (i : Nat) (v : Int32) : (mcl Γ q M ++ Y).set 16 (q 18, .inl (Γ.2.1 0, 24, .inl (upd (M 17) i v))) = mcl Γ q (pM M 17 i v) ++ Y := rfl
theorem ms_18 (Γ : zG) (q : Nat → Nat) (M : zMs) (Y : va_W) (i : Nat) (v : Int32) : (mcl Γ q M ++ Y).set 17 (q 19, .inl (Γ.2.1 0, 24, .inl (upd (M 18) i v))) = mcl Γ q (pM M 18 i v) ++ Y := rfl
theorem ms_19 (Γ : zG) (q : Nat → Nat) (M : zMs) (Y : va_W) (i : Nat) (v : Int32) : (mcl Γ q M ++ Y).set 18 (q 20, .inl (Γ.2.1 0, 24, .inl (upd (M 19) i v))) = mcl Γ q (pM M 19 i v) ++ Y := rfl
theorem ms_20 (Γ : zG) (q : Nat → Nat) (M : zMs) (Y : va_W) (i : Nat) (v : Int32) : (mcl Γ q M ++ Y).set 19 (q 21, .inl (Γ.2.1 0, 24, .inl (upd (M 20) i v))) = mcl Γ q (pM M 20 i v) ++ Y := rfl
theorem ms_21 (Γ : zG) (q : Nat → Nat) (M : zMs) (Y : va_W) (i : Nat) (v : Int32) : (mcl Γ q M ++ Y).set 20 (q 22, .inl (Γ.2.1 0, 24, .inl (upd (M 21) i v))) = mcl Γ q (pM M 21 i v) ++ Y := rfl
theorem ms_22 (Γ : zG) (q : Nat → Nat) (M : zMs) (Y : va_W) (v : Int32) : (mcl Γ q M ++ Y).set 0 (q 0, .inr (11, (mfs q M).set 22 (.int v))) = mcl Γ q (pM M 22 0 v) ++ Y := rfl
theorem ms_23 (Γ : zG) (q : Nat → Nat) (M : zMs) (Y : va_W) (i : Nat) (v : Int32) : (mcl Γ q M ++ Y).set 21 (q 24, .inl (Γ.2.1 2, 60, .inl (upd (M 23) i v))) = mcl Γ q (pM M 23 i v) ++ Y := rfl
theorem ms_24 (Γ : zG) (q : Nat → Nat) (M : zMs) (Y : va_W) (v : Int32) : (mcl Γ q M ++ Y).set 0 (q 0, .inr (11, (mfs q M).set 24 (.int v))) = mcl Γ q (pM M 24 0 v) ++ Y := rfl
theorem ms_25 (Γ : zG) (q : Nat → Nat) (M : zMs) (Y : va_W) (i : Nat) (v : Int32) : (mcl Γ q M ++ Y).set 22 (q 26, .inl (Γ.2.1 0, 40, .inl (upd (M 25) i v))) = mcl Γ q (pM M 25 i v) ++ Y := rfl
theorem ms_26 (Γ : zG) (q : Nat → Nat) (M : zMs) (Y : va_W) (i : Nat) (v : Int32) : (mcl Γ q M ++ Y).set 23 (q 27, .inl (Γ.2.1 0, 40, .inl (upd (M 26) i v))) = mcl Γ q (pM M 26 i v) ++ Y := rfl
theorem ms_27 (Γ : zG) (q : Nat → Nat) (M : zMs) (Y : va_W) (i : Nat) (v : Int32) : (mcl Γ q M ++ Y).set 24 (q 28, .inl (Γ.2.1 0, 40, .inl (upd (M 27) i v))) = mcl Γ q (pM M 27 i v) ++ Y := rfl
theorem ms_28 (Γ : zG) (q : Nat → Nat) (M : zMs) (Y : va_W) (i : Nat) (v : Int32) : (mcl Γ q M ++ Y).set 25 (q 29, .inl (Γ.2.1 0, 320, .inl (upd (M 28) i v))) = mcl Γ q (pM M 28 i v) ++ Y := rfl
theorem ms_29 (Γ : zG) (q : Nat → Nat) (M : zMs) (Y : va_W) (i : Nat) (v : Int32) : (mcl Γ q M ++ Y).set 26 (q 30, .inl (Γ.2.1 0, 160, .inl (upd (M 29) i v))) = mcl Γ q (pM M 29 i v) ++ Y := rfl
theorem ms_30 (Γ : zG) (q : Nat → Nat) (M : zMs) (Y : va_W) (i : Nat) (v : Int32) : (mcl Γ q M ++ Y).set 27 (q 31, .inl (Γ.2.1 0, 160, .inl (upd (M 30) i v))) = mcl Γ q (pM M 30 i v) ++ Y := rfl
theorem ms_31 (Γ : zG) (q : Nat → Nat) (M : zMs) (Y : va_W) (i : Nat) (v : Int32) : (mcl Γ q M ++ Y).set 28 (q 32, .inl (Γ.2.1 0, 160, .inl (upd (M 31) i v))) = mcl Γ q (pM M 31 i v) ++ Y := rfl
theorem ms_32 (Γ : zG) (q : Nat → Nat) (M : zMs) (Y : va_W) (i : Nat) (v : Int32) : (mcl Γ q M ++ Y).set 29 (q 33, .inl (Γ.2.1 0, 160, .inl (upd (M 32) i v))) = mcl Γ q (pM M 32 i v) ++ Y := rfl
theorem ms_33 (Γ : zG) (q : Nat → Nat) (M : zMs) (Y : va_W) (i : Nat) (v : Int32) : (mcl Γ q M ++ Y).set 30 (q 34, .inl (Γ.2.1 0, 160, .inl (upd (M 33) i v))) = mcl Γ q (pM M 33 i v) ++ Y := rfl
theorem ms_34 (Γ : zG) (q : Nat → Nat) (M : zMs) (Y : va_W) (i : Nat) (v : Int32) : (mcl Γ q M ++ Y).set 31 (q 35, .inl (Γ.2.1 0, 40, .inl (upd (M 34) i v))) = mcl Γ q (pM M 34 i v) ++ Y := rfl
theorem ms_35 (Γ : zG) (q : Nat → Nat) (M : zMs) (Y : va_W) (i : Nat) (v : Int32) : (mcl Γ q M ++ Y).set 32 (q 36, .inl (Γ.2.1 0, 120, .inl (upd (M 35) i v))) = mcl Γ q (pM M 35 i v) ++ Y := rfl
theorem ms_36 (Γ : zG) (q : Nat → Nat) (M : zMs) (Y : va_W) (i : Nat) (v : Int32) : (mcl Γ q M ++ Y).set 33 (q 37, .inl (Γ.2.1 0, 120, .inl (upd (M 36) i v))) = mcl Γ q (pM M 36 i v) ++ Y := rfl
theorem ms_37 (Γ : zG) (q : Nat → Nat) (M : zMs) (Y : va_W) (i : Nat) (v : Int32) : (mcl Γ q M ++ Y).set 34 (q 38, .inl (Γ.2.1 0, 120, .inl (upd (M 37) i v))) = mcl Γ q (pM M 37 i v) ++ Y := rfl
theorem ms_38 (Γ : zG) (q : Nat → Nat) (M : zMs) (Y : va_W) (i : Nat) (v : Int32) : (mcl Γ q M ++ Y).set 35 (q 39, .inl (Γ.2.1 0, 36000, .inl (upd (M 38) i v))) = mcl Γ q (pM M 38 i v) ++ Y := rfl
theorem ms_39 (Γ : zG) (q : Nat → Nat) (M : zMs) (Y : va_W) (i : Nat) (v : Int32) : (mcl Γ q M ++ Y).set 36 (q 40, .inl (Γ.2.1 0, 960, .inl (upd (M 39) i v))) = mcl Γ q (pM M 39 i v) ++ Y := rfl
theorem ms_40 (Γ : zG) (q : Nat → Nat) (M : zMs) (Y : va_W) (v : Int32) : (mcl Γ q M ++ Y).set 0 (q 0, .inr (11, (mfs q M).set 40 (.int v))) = mcl Γ q (pM M 40 0 v) ++ Y := rfl
theorem ms_41 (Γ : zG) (q : Nat → Nat) (M : zMs) (Y : va_W) (v : Int32) : (mcl Γ q M ++ Y).set 0 (q 0, .inr (11, (mfs q M).set 41 (.int v))) = mcl Γ q (pM M 41 0 v) ++ Y := rfl
theorem ms_42 (Γ : zG) (q : Nat → Nat) (M : zMs) (Y : va_W) (v : Int32) : (mcl Γ q M ++ Y).set 0 (q 0, .inr (11, (mfs q M).set 42 (.int v))) = mcl Γ q (pM M 42 0 v) ++ Y := rfl
theorem ms_43 (Γ : zG) (q : Nat → Nat) (M : zMs) (Y : va_W) (i : Nat) (v : Int32) : (mcl Γ q M ++ Y).set 37 (q 44, .inl (Γ.2.1 0, 3, .inl (upd (M 43) i v))) = mcl Γ q (pM M 43 i v) ++ Y := rfl
theorem ms_44 (Γ : zG) (q : Nat → Nat) (M : zMs) (Y : va_W) (i : Nat) (v : Int32) : (mcl Γ q M ++ Y).set 38 (q 45, .inl (Γ.2.1 0, 3, .inl (upd (M 44) i v))) = mcl Γ q (pM M 44 i v) ++ Y := rfl
theorem ms_45 (Γ : zG) (q : Nat → Nat) (M : zMs) (Y : va_W) (i : Nat) (v : Int32) : (mcl Γ q M ++ Y).set 39 (q 46, .inl (Γ.2.1 0, 2, .inl (upd (M 45) i v))) = mcl Γ q (pM M 45 i v) ++ Y := rfl
theorem ms_46 (Γ : zG) (q : Nat → Nat) (M : zMs) (Y : va_W) (i : Nat) (v : Int32) : (mcl Γ q M ++ Y).set 40 (q 47, .inl (Γ.2.1 0, 2, .inl (upd (M 46) i v))) = mcl Γ q (pM M 46 i v) ++ Y := rfl
theorem ms_47 (Γ : zG) (q : Nat → Nat) (M : zMs) (Y : va_W) (i : Nat) (v : Int32) : (mcl Γ q M ++ Y).set 41 (q 48, .inl (Γ.2.1 0, 2, .inl (upd (M 47) i v))) = mcl Γ q (pM M 47 i v) ++ Y := rfl
theorem ms_48 (Γ : zG) (q : Nat → Nat) (M : zMs) (Y : va_W) (i : Nat) (v : Int32) : (mcl Γ q M ++ Y).set 42 (q 49, .inl (Γ.2.1 0, 40, .inl (upd (M 48) i v))) = mcl Γ q (pM M 48 i v) ++ Y := rfl
theorem ms_49 (Γ : zG) (q : Nat → Nat) (M : zMs) (Y : va_W) (i : Nat) (v : Int32) : (mcl Γ q M ++ Y).set 43 (q 50, .inl (Γ.2.1 0, 2, .inl (upd (M 49) i v))) = mcl Γ q (pM M 49 i v) ++ Y := rfl
theorem ms_50 (Γ : zG) (q : Nat → Nat) (M : zMs) (Y : va_W) (i : Nat) (v : Int32) : (mcl Γ q M ++ Y).set 44 (q 51, .inl (Γ.2.1 0, 4, .inl (upd (M 50) i v))) = mcl Γ q (pM M 50 i v) ++ Y := rfl
theorem ms_51 (Γ : zG) (q : Nat → Nat) (M : zMs) (Y : va_W) (v : Int32) : (mcl Γ q M ++ Y).set 0 (q 0, .inr (11, (mfs q M).set 51 (.int v))) = mcl Γ q (pM M 51 0 v) ++ Y := rfl
theorem ms_52 (Γ : zG) (q : Nat → Nat) (M : zMs) (Y : va_W) (i : Nat) (v : Int32) : (mcl Γ q M ++ Y).set 45 (q 53, .inl (Γ.2.1 0, 6, .inl (upd (M 52) i v))) = mcl Γ q (pM M 52 i v) ++ Y := rfl
theorem ms_53 (Γ : zG) (q : Nat → Nat) (M : zMs) (Y : va_W) (i : Nat) (v : Int32) : (mcl Γ q M ++ Y).set 46 (q 54, .inl (Γ.2.1 0, 6, .inl (upd (M 53) i v))) = mcl Γ q (pM M 53 i v) ++ Y := rfl
theorem ms_54 (Γ : zG) (q : Nat → Nat) (M : zMs) (Y : va_W) (v : Int32) : (mcl Γ q M ++ Y).set 0 (q 0, .inr (11, (mfs q M).set 54 (.int v))) = mcl Γ q (pM M 54 0 v) ++ Y := rfl
section ZM
variable {p : Program} {l : Launch} {e : Env} {R : Room} {s : State} {m : MethodId} {args : Array Value} {below : List Frame} {meth : Method} {c : Code} {H : Heap} {locs : List Loc} {cells slots : Nat} {Q : State → Prop}
variable {cc : ByteArray} {pc : Nat} {ls : Array Slot} {rest : List Value} {Γ : zG} {lo : zId → Nat} {S : zSt} {X : va_W} {H0 : Heap} {q : Nat → Nat} {M : zMs} {Y : va_W}
theorem m_put (hexec : p.tables.exec = Jvm.exec) (hb : c.code = cc) {own : String} {index : Nat} {Ts : List Cond} (hts : ∀ w ∈ Ts, w.before args s = true) (hin : ∀ w ∈ wsX100, w ∈ Ts) (hown : s.vm.findClass own = some m.cls) (hK : va_K Γ.1 vwCl (zTy Γ) s) (hW : Wd Γ lo S (mcl Γ q M ++ Y) H) (hS0 : va_S (zA Γ) H0 H locs) (k : Nat) (hk : k < 55)
    (hlink : (Cond.fieldLink own index RX10 (TX10 k).2.1 (TX10 k).2.2.1).before args s = true) (hTC : (TX10 k).1 = RX10) (hfin : (TX10 k).2.2.2 = false) {v : Int32} (hd : parseFieldDescriptor (TX10 k).2.2.1 = some .int) {M1 : zMs} (h1 : M1 = pM M k 0 v) (hE : (mcl Γ q M ++ Y).set 0 (q 0, .inr (11, (mfs q M).set k (.int v))) = mcl Γ q (pM M k 0 v) ++ Y) (hdg : decode cc pc = .ok (.putfield index, 3))
    (kk : ∀ (H1 : Heap) (locs1 : List Loc), Wd Γ lo S (mcl Γ q M1 ++ Y) H1 → va_S (zA Γ) H0 H1 locs1 → W p l e R s m args below meth c H1 locs1 cells slots Q (F0 m (pc + 3) ls rest)) : W p l e R s m args below meth c H locs cells slots Q (F0 m pc ls (.int v :: .ref (q 0) :: rest)) := by
  obtain ⟨ws, hq, hP, hD, hback⟩ := wd_xset hW (k := 0) (a := q 0) (e0 := .inr (11, mfs q M)) rfl (.inr (11, (mfs q M).set k (.int v)))
  refine va_put hexec hb hts hin tyX10 tyX10_ok nmX10 hown hK hP hD hS0 0 hq rfl k hk hlink (fun x h => by rw [hTC] at h; exact h) hfin hd rfl rfl (show k < 55 from hk) hdg (fun H1 locs1 hP1 hD1 hS1 => ?_)
  have h9 := hback H1 hP1 hD1
  rw [hE, ← h1] at h9
  exact kk H1 locs1 h9 hS1
theorem m_iast (hexec : p.tables.exec = Jvm.exec) (hb : c.code = cc) (hK : va_K Γ.1 vwCl (zTy Γ) s) (hW : Wd Γ lo S (mcl Γ q M ++ Y) H) (hS : va_S (zA Γ) H0 H locs) (k pl n : Nat) (hX : (mcl Γ q M ++ Y)[pl]? = some (q (k + 1), .inl (Γ.2.1 0, n, .inl (M k)))) {i x : Int32} (hin : vp_in i n) {M1 : zMs} (h1 : M1 = pM M k i.toNatClampNeg x)
    (hE : (mcl Γ q M ++ Y).set pl (q (k + 1), .inl (Γ.2.1 0, n, .inl (upd (M k) i.toNatClampNeg x))) = mcl Γ q (pM M k i.toNatClampNeg x) ++ Y) (hdg : decode cc pc = .ok (.iastore, 1))
    (kk : ∀ (H1 : Heap) (locs1 : List Loc), Wd Γ lo S (mcl Γ q M1 ++ Y) H1 → va_S (zA Γ) H0 H1 locs1 → W p l e R s m args below meth c H1 locs1 cells slots Q (F0 m (pc + 1) ls rest)) : W p l e R s m args below meth c H locs cells slots Q (F0 m pc ls (.int x :: .int i :: .ref (q (k + 1)) :: rest)) := by
  obtain ⟨ws, hq, hP, hD, hback⟩ := wd_xset hW hX (.inl (Γ.2.1 0, n, .inl (upd (M k) i.toNatClampNeg x)))
  refine va_iast hexec hb hK hP hD hS pl 0 hq rfl hin hdg (fun H1 locs1 hP1 hD1 hS1 => ?_)
  have h9 := hback H1 hP1 hD1
  rw [hE, ← h1] at h9
  exact kk H1 locs1 h9 hS1
theorem m_zast (hexec : p.tables.exec = Jvm.exec) (hb : c.code = cc) (hK : va_K Γ.1 vwCl (zTy Γ) s) (hW : Wd Γ lo S (mcl Γ q M ++ Y) H) (hS : va_S (zA Γ) H0 H locs) (k pl n : Nat) (hX : (mcl Γ q M ++ Y)[pl]? = some (q (k + 1), .inl (Γ.2.1 2, n, .inl (M k)))) {i x : Int32} (hin : vp_in i n) {M1 : zMs} (h1 : M1 = pM M k i.toNatClampNeg (vp_nar .boolean x))
    (hE : (mcl Γ q M ++ Y).set pl (q (k + 1), .inl (Γ.2.1 2, n, .inl (upd (M k) i.toNatClampNeg (vp_nar .boolean x)))) = mcl Γ q (pM M k i.toNatClampNeg (vp_nar .boolean x)) ++ Y) (hdg : decode cc pc = .ok (.bastore, 1))
    (kk : ∀ (H1 : Heap) (locs1 : List Loc), Wd Γ lo S (mcl Γ q M1 ++ Y) H1 → va_S (zA Γ) H0 H1 locs1 → W p l e R s m args below meth c H1 locs1 cells slots Q (F0 m (pc + 1) ls rest)) : W p l e R s m args below meth c H locs cells slots Q (F0 m pc ls (.int x :: .int i :: .ref (q (k + 1)) :: rest)) := by
  obtain ⟨ws, hq, hP, hD, hback⟩ := wd_xset hW hX (.inl (Γ.2.1 2, n, .inl (upd (M k) i.toNatClampNeg (vp_nar .boolean x))))
  refine va_zast hexec hb hK hP hD hS pl 2 hq rfl hin hdg (fun H1 locs1 hP1 hD1 hS1 => ?_)
  have h9 := hback H1 hP1 hD1
  rw [hE, ← h1] at h9
  exact kk H1 locs1 h9 hS1
end ZM

