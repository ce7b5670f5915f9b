/-! makers, pure (draft) -/
section PM
variable {S S1 S2 : zSt} {M : zMs}
/-- all but P is as it was -/
def eqX (S S1 : zSt) (P : zId → Prop) : Prop := ∀ c, ¬ P c → zI S1 c = zI S c ∧ zL S1 c = zL S c ∧ zQ S1 c = zQ S c ∧ zN S1 c = zN S c ∧ zV S1 c = zV S c
theorem eqX_nw (S : zSt) (c : zId) (I : Nat → Int32) (L : Nat → Int64) (Q : Nat → Option Nat) (N : Nat → Nat) : eqX S (nw S c I L Q N) (fun d => d = c) := by
  intro d hd
  exact ⟨by rw [zI_nw, if_neg hd], by rw [zL_nw, if_neg hd], by rw [zQ_nw, if_neg hd], by rw [zN_nw, if_neg hd], by rw [zV_nw, if_neg hd]⟩
theorem eqX_tr {P P1 : zId → Prop} (h : eqX S S1 P) (h1 : eqX S1 S2 P1) : eqX S S2 (fun c => P c ∨ P1 c) := by
  intro c hc
  obtain ⟨a1, a2, a3, a4, a5⟩ := h c (fun q => hc (Or.inl q))
  obtain ⟨b1, b2, b3, b4, b5⟩ := h1 c (fun q => hc (Or.inr q))
  exact ⟨b1.trans a1, b2.trans a2, b3.trans a3, b4.trans a4, b5.trans a5⟩
theorem kne {a b : zId} (h : a.1 ≠ b.1) : a ≠ b := fun e => h (by rw [e])
theorem rules_eq {a b : Nat} (h13 : zV S (13, a, b) = false) (h12 : zV S (12, a, b) = false) (h7 : zV S (7, a, b) = false) : ∃ S1, fX6_init S a b = some S1 ∧ eqX S S1 (fun d => (d = (13, a, b) ∨ d = (12, a, b)) ∨ d = (7, a, b)) ∧
    zQ S1 (13, a, b) = (fun _ => none) ∧ zI S1 (12, a, b) = (fun _ => 0) ∧ zV S1 (7, a, b) = true := by
  unfold fX6_init
  rw [gd_t h13, st_s]
  have e12 : zV (nw S (13, a, b) (fun _ => 0) (fun _ => 0) (fun _ => none) (fun _ => 0)) (12, a, b) = false := by
    rw [zV_nw, if_neg (kne (show (12 : Nat) ≠ 13 by decide))]; exact h12
  rw [gd_t e12, st_s]
  have e7 : zV (nw (nw S (13, a, b) (fun _ => 0) (fun _ => 0) (fun _ => none) (fun _ => 0)) (12, a, b) (fun _ => 0) (fun _ => 0) (fun _ => none) (fun _ => 0)) (7, a, b) = false := by
    rw [zV_nw, if_neg (kne (show (7 : Nat) ≠ 12 by decide)), zV_nw, if_neg (kne (show (7 : Nat) ≠ 13 by decide))]; exact h7
  rw [gd_t e7, st_s]
  refine ⟨_, rfl, eqX_tr (eqX_tr (eqX_nw _ _ _ _ _ _) (eqX_nw _ _ _ _ _ _)) (eqX_nw _ _ _ _ _ _), ?_, ?_, zV_nws _ _ _ _ _ _⟩
  · rw [zQ_nw, if_neg (kne (show (13 : Nat) ≠ 7 by decide)), zQ_nw, if_neg (kne (show (13 : Nat) ≠ 12 by decide)), zQ_nw, if_pos rfl]
  · rw [zI_nw, if_neg (kne (show (12 : Nat) ≠ 7 by decide)), zI_nw, if_pos rfl]
end PM
section PM2
variable {S S1 S2 : zSt} {M : zMs}
/-- the names of a new table -/
def pTab (t : Nat) (d : zId) : Prop := d = (0, t + 2, 0) ∨ d = (13, 0, t) ∨ d = (12, 0, t) ∨ d = (7, 0, t) ∨ d = (8, t, 0)
theorem table_init {t : Nat} (f0 : zV S (0, t + 2, 0) = false) (f13 : zV S (13, 0, t) = false) (f12 : zV S (12, 0, t) = false) (f7 : zV S (7, 0, t) = false) (f8 : zV S (8, t, 0) = false) (i1 i2 : Int32) :
    ∃ S1, fX7_init S t i1 i2 = some S1 ∧ eqX S S1 (pTab t) ∧ zI S1 (8, t, 0) = (fun k => ([i1, i2, (0 : Int32), (0 : Int32), (-1 : Int32), (0 : Int32), (0 : Int32), (0 : Int32)] : List Int32).getD k 0) ∧
      zI S1 (0, t + 2, 0) = (fun _ => 0) ∧ zN S1 (0, t + 2, 0) = (fun _ => 0) ∧ zQ S1 (13, 0, t) = (fun _ => none) ∧ zI S1 (12, 0, t) = (fun _ => 0) ∧ zV S1 (8, t, 0) = true := by
  unfold fX7_init fJ_init
  rw [gd_t f0, cl_s]
  have n (a : zId) (h : a.1 ≠ 0) : a ≠ (0, t + 2, 0) := kne h
  obtain ⟨S7, e7, x7, q13, z12, -⟩ := rules_eq (S := nw S (0, t + 2, 0) (fun _ => 0) (fun _ => 0) (fun _ => none) (fun _ => 0)) (a := 0) (b := t)
    (by rw [zV_nw, if_neg (n _ (show (13 : Nat) ≠ 0 by decide))]; exact f13) (by rw [zV_nw, if_neg (n _ (show (12 : Nat) ≠ 0 by decide))]; exact f12) (by rw [zV_nw, if_neg (n _ (show (7 : Nat) ≠ 0 by decide))]; exact f7)
  rw [e7, cl_s]
  have o : ∀ c : zId, c.1 ≠ 13 → c.1 ≠ 12 → c.1 ≠ 7 → zI S7 c = zI (nw S (0, t + 2, 0) (fun _ => 0) (fun _ => 0) (fun _ => none) (fun _ => 0)) c ∧ zN S7 c = zN (nw S (0, t + 2, 0) (fun _ => 0) (fun _ => 0) (fun _ => none) (fun _ => 0)) c ∧ zV S7 c = zV (nw S (0, t + 2, 0) (fun _ => 0) (fun _ => 0) (fun _ => none) (fun _ => 0)) c := by
    intro c h1 h2 h3
    obtain ⟨a1, -, -, a4, a5⟩ := x7 c (fun q => by
      rcases q with (q | q) | q
      · exact h1 (by rw [q])
      · exact h2 (by rw [q])
      · exact h3 (by rw [q]))
    exact ⟨a1, a4, a5⟩
  have o8 := o (8, t, 0) (show (8 : Nat) ≠ 13 by decide) (show (8 : Nat) ≠ 12 by decide) (show (8 : Nat) ≠ 7 by decide)
  have o0 := o (0, t + 2, 0) (show (0 : Nat) ≠ 13 by decide) (show (0 : Nat) ≠ 12 by decide) (show (0 : Nat) ≠ 7 by decide)
  rw [gd_t (by rw [o8.2.2, zV_nw, if_neg (n _ (show (8 : Nat) ≠ 0 by decide))]; exact f8), st_s]
  refine ⟨_, rfl, ?_, by rw [zI_nw, if_pos rfl], ?_, ?_, ?_, ?_, zV_nws _ _ _ _ _ _⟩
  · intro c hc
    have hx := eqX_tr (eqX_tr (eqX_nw S (0, t + 2, 0) (fun _ => 0) (fun _ => 0) (fun _ => none) (fun _ => 0)) x7) (eqX_nw S7 (8, t, 0) (fun k => ([i1, i2, (0 : Int32), (0 : Int32), (-1 : Int32), (0 : Int32), (0 : Int32), (0 : Int32)] : List Int32).getD k 0) (fun _ => 0) (fun _ => none) (fun _ => 0))
    refine hx c (fun q => hc ?_)
    unfold pTab
    rcases q with (q | (q | q) | q) | q
    · exact Or.inl q
    · exact Or.inr (Or.inl q)
    · exact Or.inr (Or.inr (Or.inl q))
    · exact Or.inr (Or.inr (Or.inr (Or.inl q)))
    · exact Or.inr (Or.inr (Or.inr (Or.inr q)))
  · rw [zI_nw, if_neg (kne (show (0 : Nat) ≠ 8 by decide)), o0.1, zI_nw, if_pos rfl]
  · rw [zN_nw, if_neg (kne (show (0 : Nat) ≠ 8 by decide)), o0.2.1, zN_nw, if_pos rfl]
  · rw [zQ_nw, if_neg (kne (show (13 : Nat) ≠ 8 by decide)), q13]
  · rw [zI_nw, if_neg (kne (show (12 : Nat) ≠ 8 by decide)), z12]
theorem vMd_eq {c : zId} {j k : Nat} {d : Int32} (hq : zQ S1 c = zQ S c) (h4 : ∀ n, zQ S c j = some n → zI S1 (4, n, 0) = zI S (4, n, 0)) : vMd S1 c j k d = vMd S c j k d := by
  unfold vMd
  rw [hq]
  cases h : zQ S c j with
  | none => rfl
  | some n =>
    show (if zI S1 (4, n, 0) k = -1 then -2 else zI S1 (4, n, 0) k) = (if zI S (4, n, 0) k = -1 then (-2 : Int32) else zI S (4, n, 0) k)
    rw [h4 n h]
end PM2
