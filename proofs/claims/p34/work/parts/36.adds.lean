/-! one more in a list -/
section PA
variable {S : zSt} {M : zMs}
/-- all that is not the list i is as it was -/
def eqB (S S1 : zSt) (i : Nat) : Prop :=
  (∀ c : zId, c.1 ≠ 0 → c.1 ≠ 23 → zI S1 c = zI S c ∧ zL S1 c = zL S c ∧ zQ S1 c = zQ S c ∧ zN S1 c = zN S c ∧ zV S1 c = zV S c) ∧
  (∀ a b : Nat, a ≠ i → zI S1 (0, a, b) = zI S (0, a, b) ∧ zN S1 (0, a, b) = zN S (0, a, b)) ∧ (∀ a b : Nat, zV S1 (0, a, b) = zV S (0, a, b)) ∧
  (∀ a g : Nat, a ≠ i → zN S1 (23, a, g) = zN S (23, a, g) ∧ zV S1 (23, a, g) = zV S (23, a, g))
theorem eqB_ls {S1 : zSt} {i : Nat} (h : eqB S S1 i) {a n : Nat} (ha : a ≠ i) (hl : zLs S a n) : zLs S1 a n := by
  obtain ⟨-, h2, -, h4⟩ := h
  obtain ⟨e1, e2⟩ := h2 a 0 ha
  unfold zLs at hl ⊢
  rw [e1, e2, (h4 a _ ha).1]
  refine ⟨hl.1, fun g hg => ?_, hl.2.2⟩
  rw [(h4 a g ha).2]
  exact hl.2.1 g hg
theorem ne23 {c : zId} (h : c.1 ≠ 23) (i g : Nat) : c ≠ (23, i, g) := fun e => h (by rw [e])
theorem ne00 {c : zId} (h : c.1 ≠ 0) (i g : Nat) : c ≠ (0, i, g) := fun e => h (by rw [e])
theorem n230 (i g a b : Nat) : ((23, i, g) : zId) ≠ (0, a, b) := fun e => by cases congrArg Prod.fst e
theorem n023 (i g a b : Nat) : ((0, i, g) : zId) ≠ (23, a, b) := fun e => by cases congrArg Prod.fst e
theorem addE {g n cap : Nat} {i j : Nat} (x y : Int32) (N : Nat → Nat) :
    eqB S (pI (pN (pN (nw (pI S (0, i, 0) 0 x) (23, i, g) (fun _ => 0) (fun _ => 0) (fun _ => none) N) (0, i, 0) 0 g) (23, i, g) 1 (j + 1)) (0, i, 0) 2 y) i := by
  refine ⟨fun c h0 h23 => ?_, fun a b ha => ?_, fun a b => ?_, fun a q ha => ?_⟩
  · have e1 := ne00 h0 i 0
    have e2 := ne23 h23 i g
    refine ⟨?_, ?_, ?_, ?_, ?_⟩
    · rw [zI_pIn _ e1, zI_pN, zI_pN, zI_nw, if_neg e2, zI_pIn _ e1]
    · rw [zL_pI, zL_pN, zL_pN, zL_nw, if_neg e2, zL_pI]
    · rw [zQ_pI, zQ_pN, zQ_pN, zQ_nw, if_neg e2, zQ_pI]
    · rw [zN_pI, zN_pN, if_neg e2, zN_pN, if_neg e1, zN_nw, if_neg e2, zN_pI]
    · rw [zV_pI, zV_pN, zV_pN, zV_nw, if_neg e2, zV_pI]
  · have e1 : ((0, a, b) : zId) ≠ (0, i, 0) := fun e => ha (congrArg (fun z : zId => z.2.1) e)
    have e2 := n023 a b i g
    refine ⟨?_, ?_⟩
    · rw [zI_pIn _ e1, zI_pN, zI_pN, zI_nw, if_neg e2, zI_pIn _ e1]
    · rw [zN_pI, zN_pN, if_neg e2, zN_pN, if_neg e1, zN_nw, if_neg e2, zN_pI]
  · rw [zV_pI, zV_pN, zV_pN, zV_nw, if_neg (n023 a b i g), zV_pI]
  · have e1 : ((23, a, q) : zId) ≠ (23, i, g) := fun e => ha (congrArg (fun z : zId => z.2.1) e)
    refine ⟨?_, ?_⟩
    · rw [zN_pI, zN_pN, if_neg e1, zN_pN, if_neg (n230 a q i 0), zN_nw, if_neg e1, zN_pI]
    · rw [zV_pI, zV_pN, zV_pN, zV_nw, if_neg e1, zV_pI]
theorem addL {i j g cap : Nat} (x : Int32) (N : Nat → Nat) (hg : g ≠ 0) (h0 : N 0 = cap) (hjc : j + 1 ≤ cap) (h10 : 10 ≤ cap) (h64 : cap ≤ 64) (hf : ∀ q, g < q → zV S (23, i, q) = false) :
    zLs (pI (pN (pN (nw (pI S (0, i, 0) 0 x) (23, i, g) (fun _ => 0) (fun _ => 0) (fun _ => none) N) (0, i, 0) 0 g) (23, i, g) 1 (j + 1)) (0, i, 0) 2 (nI j + 1)) i (j + 1) := by
  have en : zN (pI (pN (pN (nw (pI S (0, i, 0) 0 x) (23, i, g) (fun _ => 0) (fun _ => 0) (fun _ => none) N) (0, i, 0) 0 g) (23, i, g) 1 (j + 1)) (0, i, 0) 2 (nI j + 1)) (0, i, 0) 0 = g := by
    rw [zN_pI, zN_pN, if_neg (n023 i 0 i g), zN_pN, if_pos rfl]
    exact if_pos rfl
  have er : ∀ k, zN (pI (pN (pN (nw (pI S (0, i, 0) 0 x) (23, i, g) (fun _ => 0) (fun _ => 0) (fun _ => none) N) (0, i, 0) 0 g) (23, i, g) 1 (j + 1)) (0, i, 0) 2 (nI j + 1)) (23, i, g) k = if k = 1 then j + 1 else N k := by
    intro k
    rw [zN_pI, zN_pN, if_pos rfl, zN_pN, if_neg (n230 i g i 0), zN_nw, if_pos rfl]
    rfl
  unfold zLs
  rw [en, er, er]
  refine ⟨?_, fun q hq => ?_, fun e => absurd e hg, fun _ => ⟨if_pos rfl, ?_, ?_, ?_⟩⟩
  · rw [zI_at, if_pos ⟨rfl, rfl⟩, nI_1]
  · rw [zV_pI, zV_pN, zV_pN, zV_nw, if_neg (fun e => by have := congrArg (fun z : zId => z.2.2) e; dsimp only at this; omega), zV_pI]
    exact hf q hq
  · rw [if_neg (by omega), h0]; exact hjc
  · rw [if_neg (by omega), h0]; exact h10
  · rw [if_neg (by omega), h0]; exact h64
theorem add_eq {i j : Nat} (h : zLs S i j) (hj : j ≤ 40) (hv : zV S (zEl i j) = true) : ∃ S1, fJ_add S i j = some S1 ∧ zLs S1 i (j + 1) ∧ eqB S S1 i := by
  obtain ⟨l1, l2, l3, l4⟩ := h
  unfold fJ_add
  rw [gd_t ⟨l1, by omega, hv, fun e => ⟨(l4 e).1, (l4 e).2.1, (l4 e).2.2.2⟩⟩, st_s]
  have en : ∀ d, zN (pI S (0, i, 0) 0 (zI S (0, i, 0) 0 + 1)) d = zN S d := fun d => rfl
  have ev : ∀ d, zV (pI S (0, i, 0) 0 (zI S (0, i, 0) 0 + 1)) d = zV S d := fun d => rfl
  unfold fJ_room
  simp only [en, ev]
  by_cases hg : zN S (0, i, 0) 0 = 0
  · have hj0 := l3 hg
    subst hj0
    have e2 : zN (pN (nw (pI S (0, i, 0) 0 (zI S (0, i, 0) 0 + 1)) (23, i, 1) (fun _ => 0) (fun _ => 0) (fun _ => none) (fun k => ([10, 0] : List Nat).getD k 0)) (0, i, 0) 0 1) (0, i, 0) 0 = 1 := by
      rw [zN_pN, if_pos rfl]; exact if_pos rfl
    rw [if_pos hg, gd_t ⟨rfl, l2 1 (by omega)⟩, cl_s, st_s, st_s, e2]
    exact ⟨_, rfl, addL (cap := 10) _ _ (by decide) rfl (by decide) (by decide) (by decide) (fun q hq => l2 q (by omega)), addE (n := 0) (cap := 0) _ _ _⟩
  · obtain ⟨r1, r2, r3, r4⟩ := l4 hg
    rw [if_neg hg]
    by_cases hfull : zN S (23, i, zN S (0, i, 0) 0) 0 = j
    · have e2 : zN (pN (nw (pI S (0, i, 0) 0 (zI S (0, i, 0) 0 + 1)) (23, i, zN S (0, i, 0) 0 + 1) (fun _ => 0) (fun _ => 0) (fun _ => none) (fun k => ([j + j / 2, j] : List Nat).getD k 0)) (0, i, 0) 0 (zN S (0, i, 0) 0 + 1)) (0, i, 0) 0 = zN S (0, i, 0) 0 + 1 := by
        rw [zN_pN, if_pos rfl]; exact if_pos rfl
      rw [if_pos hfull, gd_t ⟨l2 _ (by omega), by omega, by omega⟩, cl_s, st_s, st_s, e2]
      exact ⟨_, rfl, addL (cap := j + j / 2) _ _ (Nat.succ_ne_zero _) rfl (by omega) (by omega) (by omega) (fun q hq => l2 q (by omega)), addE (n := 0) (cap := 0) _ _ _⟩
    · rw [if_neg hfull, cl_s, st_s, st_s, en]
      refine ⟨_, rfl, ?_, ?_⟩
      · have e1 : zN (pI (pN (pI S (0, i, 0) 0 (zI S (0, i, 0) 0 + 1)) (23, i, zN S (0, i, 0) 0) 1 (j + 1)) (0, i, 0) 2 (nI j + 1)) (0, i, 0) = zN S (0, i, 0) := by
          rw [zN_pI, zN_pN, if_neg (n023 i 0 i _), zN_pI]
        have er : ∀ k, zN (pI (pN (pI S (0, i, 0) 0 (zI S (0, i, 0) 0 + 1)) (23, i, zN S (0, i, 0) 0) 1 (j + 1)) (0, i, 0) 2 (nI j + 1)) (23, i, zN S (0, i, 0) 0) k = if k = 1 then j + 1 else zN S (23, i, zN S (0, i, 0) 0) k := by
          intro k
          rw [zN_pI, zN_pN, if_pos rfl, zN_pI]
          rfl
        unfold zLs
        rw [e1, er, er]
        refine ⟨?_, fun q hq => l2 q hq, fun e => absurd e hg, fun _ => ⟨if_pos rfl, ?_, ?_, ?_⟩⟩
        · rw [zI_at, if_pos ⟨rfl, rfl⟩, nI_1]
        · rw [if_neg (by omega)]; omega
        · rw [if_neg (by omega)]; exact r3
        · rw [if_neg (by omega)]; exact r4
      · refine ⟨fun c h0 h23 => ?_, fun a b ha => ?_, fun a b => rfl, fun a q ha => ?_⟩
        · have e1 := ne00 h0 i 0
          have e2 := ne23 h23 i (zN S (0, i, 0) 0)
          exact ⟨by rw [zI_pIn _ e1, zI_pN, zI_pIn _ e1], rfl, rfl, by rw [zN_pI, zN_pN, if_neg e2, zN_pI], rfl⟩
        · have e1 : ((0, a, b) : zId) ≠ (0, i, 0) := fun e => ha (congrArg (fun z : zId => z.2.1) e)
          exact ⟨by rw [zI_pIn _ e1, zI_pN, zI_pIn _ e1], by rw [zN_pI, zN_pN, if_neg (n023 a b i _), zN_pI]⟩
        · have e1 : ((23, a, q) : zId) ≠ (23, i, zN S (0, i, 0) 0) := fun e => ha (congrArg (fun z : zId => z.2.1) e)
          exact ⟨by rw [zN_pI, zN_pN, if_neg e1, zN_pI], rfl⟩
end PA
