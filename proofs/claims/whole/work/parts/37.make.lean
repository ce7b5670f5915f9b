/-! makers, pure (draft) -/
section PM
variable {S S1 S2 : zSt} {M : zMs}
/-- all but P is as it was -/
def eqX (S S1 : zSt) (P : zId → Prop) : Prop := ∀ c, ¬ P c → zI S1 c = zI S c ∧ zL S1 c = zL S c ∧ zQ S1 c = zQ S c ∧ zN S1 c = zN S c ∧ zV S1 c = zV S c
theorem eqX_nw (S : zSt) (c : zId) (I : Nat → Int32) (L : Nat → Int64) (Q : Nat → Option Nat) (N : Nat → Nat) : eqX S (nw S c I L Q N) (fun d => d = c) := by
  intro d hd
  exact ⟨by rw [zI_nw, if_neg hd], by rw [zL_nw, if_neg hd], by rw [zQ_nw, if_neg hd], by rw [zN_nw, if_neg hd], by rw [zV_nw, if_neg hd]⟩
theorem eqX_tr {P P1 : zId → Prop} (h : eqX S S1 P) (h1 : eqX S1 S2 P1) : eqX S S2 (fun c => P c ∨ P1 c) := by
  intro c hc
  obtain ⟨a1, a2, a3, a4, a5⟩ := h c (fun q => hc (Or.inl q))
  obtain ⟨b1, b2, b3, b4, b5⟩ := h1 c (fun q => hc (Or.inr q))
  exact ⟨b1.trans a1, b2.trans a2, b3.trans a3, b4.trans a4, b5.trans a5⟩
theorem kne {a b : zId} (h : a.1 ≠ b.1) : a ≠ b := fun e => h (by rw [e])
theorem rules_eq {a b : Nat} (h13 : zV S (13, a, b) = false) (h12 : zV S (12, a, b) = false) (h7 : zV S (7, a, b) = false) : ∃ S1, fX6_init S a b = some S1 ∧ eqX S S1 (fun d => (d = (13, a, b) ∨ d = (12, a, b)) ∨ d = (7, a, b)) ∧
    zQ S1 (13, a, b) = (fun _ => none) ∧ zI S1 (12, a, b) = (fun _ => 0) ∧ zV S1 (7, a, b) = true := by
  unfold fX6_init
  rw [gd_t h13, st_s]
  have e12 : zV (nw S (13, a, b) (fun _ => 0) (fun _ => 0) (fun _ => none) (fun _ => 0)) (12, a, b) = false := by
    rw [zV_nw, if_neg (kne (show (12 : Nat) ≠ 13 by decide))]; exact h12
  rw [gd_t e12, st_s]
  have e7 : zV (nw (nw S (13, a, b) (fun _ => 0) (fun _ => 0) (fun _ => none) (fun _ => 0)) (12, a, b) (fun _ => 0) (fun _ => 0) (fun _ => none) (fun _ => 0)) (7, a, b) = false := by
    rw [zV_nw, if_neg (kne (show (7 : Nat) ≠ 12 by decide)), zV_nw, if_neg (kne (show (7 : Nat) ≠ 13 by decide))]; exact h7
  rw [gd_t e7, st_s]
  refine ⟨_, rfl, eqX_tr (eqX_tr (eqX_nw _ _ _ _ _ _) (eqX_nw _ _ _ _ _ _)) (eqX_nw _ _ _ _ _ _), ?_, ?_, zV_nws _ _ _ _ _ _⟩
  · rw [zQ_nw, if_neg (kne (show (13 : Nat) ≠ 7 by decide)), zQ_nw, if_neg (kne (show (13 : Nat) ≠ 12 by decide)), zQ_nw, if_pos rfl]
  · rw [zI_nw, if_neg (kne (show (12 : Nat) ≠ 7 by decide)), zI_nw, if_pos rfl]
end PM
