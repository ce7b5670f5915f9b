/-! addTable, pure -/
section PT
variable {S : zSt} {M : zMs}
theorem eqX_ls {S1 : zSt} {P : zId → Prop} (h : eqX S S1 P) {i n : Nat} (h0 : ¬ P (0, i, 0)) (h23 : ∀ g, ¬ P (23, i, g)) (hl : zLs S i n) : zLs S1 i n := by
  obtain ⟨a1, -, -, a4, -⟩ := h _ h0
  unfold zLs at hl ⊢
  rw [a1, a4, (h _ (h23 _)).2.2.2.1]
  exact ⟨hl.1, fun g hg => by rw [(h _ (h23 g)).2.2.2.2]; exact hl.2.1 g hg, hl.2.2⟩
theorem npk {t : Nat} {c : zId} (h0 : c.1 ≠ 0) (h13 : c.1 ≠ 13) (h12 : c.1 ≠ 12) (h7 : c.1 ≠ 7) (h8 : c.1 ≠ 8) : ¬ pTab t c := by
  rintro (e | e | e | e | e)
  · exact h0 (by rw [e])
  · exact h13 (by rw [e])
  · exact h12 (by rw [e])
  · exact h7 (by rw [e])
  · exact h8 (by rw [e])
theorem np8 {t i : Nat} (hi : i ≠ t) : ¬ pTab t (8, i, 0) := by
  rintro (e | e | e | e | e)
  · cases congrArg Prod.fst e
  · cases congrArg Prod.fst e
  · cases congrArg Prod.fst e
  · cases congrArg Prod.fst e
  · exact hi (congrArg (fun z : zId => z.2.1) e)
theorem np0 {t i : Nat} (hi : i ≠ t) : ¬ pTab t (0, i + 2, 0) := by
  rintro (e | e | e | e | e)
  · have := congrArg (fun z : zId => z.2.1) e
    dsimp only at this
    omega
  · cases congrArg Prod.fst e
  · cases congrArg Prod.fst e
  · cases congrArg Prod.fst e
  · cases congrArg Prod.fst e
theorem np0' {t i : Nat} (hi : i < 2) : ¬ pTab t (0, i, 0) := by
  rintro (e | e | e | e | e)
  · have := congrArg (fun z : zId => z.2.1) e
    dsimp only at this
    omega
  · cases congrArg Prod.fst e
  · cases congrArg Prod.fst e
  · cases congrArg Prod.fst e
  · cases congrArg Prod.fst e
theorem np01 {t : Nat} : ¬ pTab t (0, 1, 0) := np0' (by decide)
theorem npr {t k a i : Nat} (hk : k = 13 ∨ k = 12 ∨ k = 7) (hi : a ≠ 0 ∨ i ≠ t) : ¬ pTab t (k, a, i) := by
  rintro (e | e | e | e | e)
  · have := congrArg Prod.fst e
    dsimp only at this
    omega
  · have := congrArg (fun z : zId => z.2.1) e
    have := congrArg (fun z : zId => z.2.2) e
    dsimp only at *
    omega
  · have := congrArg (fun z : zId => z.2.1) e
    have := congrArg (fun z : zId => z.2.2) e
    dsimp only at *
    omega
  · have := congrArg (fun z : zId => z.2.1) e
    have := congrArg (fun z : zId => z.2.2) e
    dsimp only at *
    omega
  · have := congrArg Prod.fst e
    dsimp only at this
    omega
theorem np12 {t i : Nat} (hi : i ≠ t) : ¬ pTab t (12, 0, i) := npr (Or.inr (Or.inl rfl)) (Or.inr hi)
theorem np13 {t i : Nat} (hi : i ≠ t) : ¬ pTab t (13, 0, i) := npr (Or.inl rfl) (Or.inr hi)
theorem np121 {t i : Nat} : ¬ pTab t (12, 1, i) := npr (Or.inr (Or.inl rfl)) (Or.inl (by decide))
theorem np131 {t i : Nat} : ¬ pTab t (13, 1, i) := npr (Or.inl rfl) (Or.inl (by decide))
theorem ag_addTable {S1 S2 : zSt} {M1 : zMs} {i1 i2 : Int32} (h : Tie S M) (h6 : nT M < 6) (x1 : eqX S S1 (pTab (nT M))) (v8 : zI S1 (8, nT M, 0) = (fun k => ([i1, i2, (0 : Int32), (0 : Int32), (-1 : Int32), (0 : Int32), (0 : Int32), (0 : Int32)] : List Int32).getD k 0))
    (v0 : zI S1 (0, nT M + 2, 0) = (fun _ => 0)) (v13 : zQ S1 (13, 0, nT M) = (fun _ => none)) (v12 : zI S1 (12, 0, nT M) = (fun _ => 0)) (l2 : zLs S2 0 (nT M + 1)) (xB : eqB S1 S2 0)
    (hM : M1 = pM (pM (pM (pM (pM M 0 0 0) 2 (nT M) i1) 3 (nT M) i2) 7 (nT M) (-1)) 1 0 (nI (nT M + 1))) : AG S2 M1 := by
  obtain ⟨w1, w2, w3, w4, w5, w6, w7, w8, w9⟩ := h.1
  have z456 : ∀ t, nT M ≤ t → t < 6 → M 8 t = 0 ∧ M 4 t = 0 ∧ M 5 t = 0 ∧ M 6 t = 0 := fun t h1 h2 => (w4 t h2).2 h1
  obtain ⟨b1, b2, b3, b4⟩ := xB
  have sm : ∀ c : zId, c.1 ≠ 0 → c.1 ≠ 23 → ¬ pTab (nT M) c → zI S2 c = zI S c ∧ zQ S2 c = zQ S c := by
    intro c h0 h23 hp
    obtain ⟨p1, p2, p3, p4, p5⟩ := b1 c h0 h23
    obtain ⟨q1, q2, q3, q4, q5⟩ := x1 c hp
    exact ⟨p1.trans q1, p3.trans q3⟩
  have s4 : ∀ n, zI S2 (4, n, 0) = zI S (4, n, 0) := fun n => (sm (4, n, 0) (show (4 : Nat) ≠ 0 by decide) (show (4 : Nat) ≠ 23 by decide) (npk (show (4 : Nat) ≠ 0 by decide) (show (4 : Nat) ≠ 13 by decide) (show (4 : Nat) ≠ 12 by decide) (show (4 : Nat) ≠ 7 by decide) (show (4 : Nat) ≠ 8 by decide))).1
  have e1 : M1 1 0 = nI (nT M + 1) := by rw [hM, pM_s]
  have hn : nT M1 = nT M + 1 := by unfold nT; rw [e1]; exact nI_clamp (by omega)
  have lt8 : ∀ {i : Nat}, i / 8 < nT M + 1 ∧ i % 8 < nB M (i / 8) → i / 8 < nT M := by
    intro i hi
    by_cases e : i / 8 = nT M
    · have := hi.2
      unfold nB at this
      rw [e, (z456 (nT M) (Nat.le_refl _) h6).1] at this
      exact absurd this (Nat.not_lt_zero _)
    · omega
  have m2 : ∀ i, M1 2 i = if i = nT M then i1 else M 2 i := by
    intro i
    rw [hM]
    show pM (pM M 0 0 0) 2 (nT M) i1 2 i = _
    rw [pM_at]
    by_cases e : i = nT M
    · rw [if_pos ⟨rfl, e⟩, if_pos e]
    · rw [if_neg (fun q => e q.2), if_neg e]; rfl
  have m3 : ∀ i, M1 3 i = if i = nT M then i2 else M 3 i := by
    intro i
    rw [hM]
    show pM (pM (pM M 0 0 0) 2 (nT M) i1) 3 (nT M) i2 3 i = _
    rw [pM_at]
    by_cases e : i = nT M
    · rw [if_pos ⟨rfl, e⟩, if_pos e]
    · rw [if_neg (fun q => e q.2), if_neg e]; rfl
  have m7 : ∀ i, M1 7 i = if i = nT M then -1 else M 7 i := by
    intro i
    rw [hM]
    show pM (pM (pM (pM M 0 0 0) 2 (nT M) i1) 3 (nT M) i2) 7 (nT M) (-1) 7 i = _
    rw [pM_at]
    by_cases e : i = nT M
    · rw [if_pos ⟨rfl, e⟩, if_pos e]
    · rw [if_neg (fun q => e q.2), if_neg e]; rfl
  have mo : ∀ k, k ≠ 0 → k ≠ 1 → k ≠ 2 → k ≠ 3 → k ≠ 7 → M1 k = M k := by
    intro k k0 k1 k2 k3 k7
    rw [hM]
    unfold pM
    rw [if_neg k1, if_neg k7, if_neg k3, if_neg k2, if_neg k0]
  have hB : ∀ t, nB M1 t = nB M t := fun t => by unfold nB; rw [mo 8 (by decide) (by decide) (by decide) (by decide) (by decide)]
  have hG : nG M1 = nG M := by unfold nG; rw [mo 24 (by decide) (by decide) (by decide) (by decide) (by decide)]
  have hD : ∀ g, nD M1 g = nD M g := fun g => by unfold nD; rw [mo 34 (by decide) (by decide) (by decide) (by decide) (by decide)]
  have m17 : ∀ i, M1 17 i = M 17 i := fun i => by rw [mo 17 (by decide) (by decide) (by decide) (by decide) (by decide)]
  have m29 : ∀ i, M1 29 i = M 29 i := fun i => by rw [mo 29 (by decide) (by decide) (by decide) (by decide) (by decide)]
  intro k i hd
  match k, hd with
  | 1, hd =>
    have hi : i = 0 := hd
    subst hi
    show zI S2 (0, 0, 0) 2 = M1 1 0
    rw [l2.1, e1]
  | 2, hd =>
    have hi : i < nT M1 := hd
    rw [hn] at hi
    show zI S2 (8, i, 0) 0 = M1 2 i
    by_cases e : i = nT M
    · subst e
      rw [(b1 (8, nT M, 0) (show (8 : Nat) ≠ 0 by decide) (show (8 : Nat) ≠ 23 by decide)).1, v8, m2, if_pos rfl]
      rfl
    · rw [(sm (8, i, 0) (show (8 : Nat) ≠ 0 by decide) (show (8 : Nat) ≠ 23 by decide) (np8 e)).1, m2, if_neg e]
      exact h.2.1 2 i (show i < nT M by omega)
  | 3, hd =>
    have hi : i < nT M1 := hd
    rw [hn] at hi
    show zI S2 (8, i, 0) 1 = M1 3 i
    by_cases e : i = nT M
    · subst e
      rw [(b1 (8, nT M, 0) (show (8 : Nat) ≠ 0 by decide) (show (8 : Nat) ≠ 23 by decide)).1, v8, m3, if_pos rfl]
      rfl
    · rw [(sm (8, i, 0) (show (8 : Nat) ≠ 0 by decide) (show (8 : Nat) ≠ 23 by decide) (np8 e)).1, m3, if_neg e]
      exact h.2.1 3 i (show i < nT M by omega)
  | 4, hd =>
    rw [show M1 4 i = M 4 i from congrFun (mo 4 (by decide) (by decide) (by decide) (by decide) (by decide)) i]
    have hi : i < nT M1 := hd
    rw [hn] at hi
    show zI S2 (8, i, 0) 5 = M 4 i
    by_cases e : i = nT M
    · subst e
      rw [(b1 (8, nT M, 0) (show (8 : Nat) ≠ 0 by decide) (show (8 : Nat) ≠ 23 by decide)).1, v8]
      exact (z456 (nT M) (Nat.le_refl _) h6).2.1.symm
    · rw [(sm (8, i, 0) (show (8 : Nat) ≠ 0 by decide) (show (8 : Nat) ≠ 23 by decide) (np8 e)).1]
      exact h.2.1 4 i (show i < nT M by omega)
  | 5, hd =>
    rw [show M1 5 i = M 5 i from congrFun (mo 5 (by decide) (by decide) (by decide) (by decide) (by decide)) i]
    have hi : i < nT M1 := hd
    rw [hn] at hi
    show zI S2 (8, i, 0) 6 = M 5 i
    by_cases e : i = nT M
    · subst e
      rw [(b1 (8, nT M, 0) (show (8 : Nat) ≠ 0 by decide) (show (8 : Nat) ≠ 23 by decide)).1, v8]
      exact (z456 (nT M) (Nat.le_refl _) h6).2.2.1.symm
    · rw [(sm (8, i, 0) (show (8 : Nat) ≠ 0 by decide) (show (8 : Nat) ≠ 23 by decide) (np8 e)).1]
      exact h.2.1 5 i (show i < nT M by omega)
  | 6, hd =>
    rw [show M1 6 i = M 6 i from congrFun (mo 6 (by decide) (by decide) (by decide) (by decide) (by decide)) i]
    have hi : i < nT M1 := hd
    rw [hn] at hi
    show zI S2 (8, i, 0) 7 = M 6 i
    by_cases e : i = nT M
    · subst e
      rw [(b1 (8, nT M, 0) (show (8 : Nat) ≠ 0 by decide) (show (8 : Nat) ≠ 23 by decide)).1, v8]
      exact (z456 (nT M) (Nat.le_refl _) h6).2.2.2.symm
    · rw [(sm (8, i, 0) (show (8 : Nat) ≠ 0 by decide) (show (8 : Nat) ≠ 23 by decide) (np8 e)).1]
      exact h.2.1 6 i (show i < nT M by omega)
  | 7, hd =>
    have hi : i < nT M1 := hd
    rw [hn] at hi
    show zI S2 (8, i, 0) 4 = M1 7 i
    by_cases e : i = nT M
    · subst e
      rw [(b1 (8, nT M, 0) (show (8 : Nat) ≠ 0 by decide) (show (8 : Nat) ≠ 23 by decide)).1, v8, m7, if_pos rfl]
      rfl
    · rw [(sm (8, i, 0) (show (8 : Nat) ≠ 0 by decide) (show (8 : Nat) ≠ 23 by decide) (np8 e)).1, m7, if_neg e]
      exact h.2.1 7 i (show i < nT M by omega)
  | 8, hd =>
    rw [show M1 8 i = M 8 i from congrFun (mo 8 (by decide) (by decide) (by decide) (by decide) (by decide)) i]
    have hi : i < nT M1 := hd
    rw [hn] at hi
    show zI S2 (0, i + 2, 0) 2 = M 8 i
    rw [(b2 (i + 2) 0 (by omega)).1]
    by_cases e : i = nT M
    · subst e
      rw [v0]
      exact (z456 (nT M) (Nat.le_refl _) h6).1.symm
    · rw [(x1 (0, i + 2, 0) (np0 e)).1]
      exact h.2.1 8 i (show i < nT M by omega)
  | 9, hd =>
    rw [show M1 9 i = M 9 i from congrFun (mo 9 (by decide) (by decide) (by decide) (by decide) (by decide)) i]
    have hi : i / 8 < nT M1 ∧ i % 8 < nB M1 (i / 8) := hd
    rw [hn, hB] at hi
    have hi2 : i / 8 < nT M := lt8 hi
    show zI S2 (2, i / 8, i % 8) 0 = M 9 i
    rw [(sm (2, i / 8, i % 8) (show (2 : Nat) ≠ 0 by decide) (show (2 : Nat) ≠ 23 by decide) (npk (show (2 : Nat) ≠ 0 by decide) (show (2 : Nat) ≠ 13 by decide) (show (2 : Nat) ≠ 12 by decide) (show (2 : Nat) ≠ 7 by decide) (show (2 : Nat) ≠ 8 by decide))).1]
    exact h.2.1 9 i ⟨hi2, hi.2⟩
  | 10, hd =>
    rw [show M1 10 i = M 10 i from congrFun (mo 10 (by decide) (by decide) (by decide) (by decide) (by decide)) i]
    have hi : i / 8 < nT M1 ∧ i % 8 < nB M1 (i / 8) := hd
    rw [hn, hB] at hi
    have hi2 : i / 8 < nT M := lt8 hi
    show zI S2 (2, i / 8, i % 8) 1 = M 10 i
    rw [(sm (2, i / 8, i % 8) (show (2 : Nat) ≠ 0 by decide) (show (2 : Nat) ≠ 23 by decide) (npk (show (2 : Nat) ≠ 0 by decide) (show (2 : Nat) ≠ 13 by decide) (show (2 : Nat) ≠ 12 by decide) (show (2 : Nat) ≠ 7 by decide) (show (2 : Nat) ≠ 8 by decide))).1]
    exact h.2.1 10 i ⟨hi2, hi.2⟩
  | 11, hd =>
    rw [show M1 11 i = M 11 i from congrFun (mo 11 (by decide) (by decide) (by decide) (by decide) (by decide)) i]
    have hi : i / 8 < nT M1 ∧ i % 8 < nB M1 (i / 8) := hd
    rw [hn, hB] at hi
    have hi2 : i / 8 < nT M := lt8 hi
    show zI S2 (2, i / 8, i % 8) 2 = M 11 i
    rw [(sm (2, i / 8, i % 8) (show (2 : Nat) ≠ 0 by decide) (show (2 : Nat) ≠ 23 by decide) (npk (show (2 : Nat) ≠ 0 by decide) (show (2 : Nat) ≠ 13 by decide) (show (2 : Nat) ≠ 12 by decide) (show (2 : Nat) ≠ 7 by decide) (show (2 : Nat) ≠ 8 by decide))).1]
    exact h.2.1 11 i ⟨hi2, hi.2⟩
  | 12, hd =>
    rw [show M1 12 i = M 12 i from congrFun (mo 12 (by decide) (by decide) (by decide) (by decide) (by decide)) i]
    have hi : i / 8 < nT M1 ∧ i % 8 < nB M1 (i / 8) := hd
    rw [hn, hB] at hi
    have hi2 : i / 8 < nT M := lt8 hi
    show zI S2 (2, i / 8, i % 8) 3 = M 12 i
    rw [(sm (2, i / 8, i % 8) (show (2 : Nat) ≠ 0 by decide) (show (2 : Nat) ≠ 23 by decide) (npk (show (2 : Nat) ≠ 0 by decide) (show (2 : Nat) ≠ 13 by decide) (show (2 : Nat) ≠ 12 by decide) (show (2 : Nat) ≠ 7 by decide) (show (2 : Nat) ≠ 8 by decide))).1]
    exact h.2.1 12 i ⟨hi2, hi.2⟩
  | 13, hd =>
    rw [show M1 13 i = M 13 i from congrFun (mo 13 (by decide) (by decide) (by decide) (by decide) (by decide)) i]
    have hi : i / 8 < nT M1 ∧ i % 8 < nB M1 (i / 8) := hd
    rw [hn, hB] at hi
    have hi2 : i / 8 < nT M := lt8 hi
    show zI S2 (2, i / 8, i % 8) 4 = M 13 i
    rw [(sm (2, i / 8, i % 8) (show (2 : Nat) ≠ 0 by decide) (show (2 : Nat) ≠ 23 by decide) (npk (show (2 : Nat) ≠ 0 by decide) (show (2 : Nat) ≠ 13 by decide) (show (2 : Nat) ≠ 12 by decide) (show (2 : Nat) ≠ 7 by decide) (show (2 : Nat) ≠ 8 by decide))).1]
    exact h.2.1 13 i ⟨hi2, hi.2⟩
  | 14, hd =>
    rw [show M1 14 i = M 14 i from congrFun (mo 14 (by decide) (by decide) (by decide) (by decide) (by decide)) i]
    have hi : i / 8 < nT M1 := hd
    rw [hn] at hi
    show zI S2 (12, 0, i / 8) (i % 8) = M 14 i
    by_cases e : i / 8 = nT M
    · rw [e, (b1 (12, 0, nT M) (show (12 : Nat) ≠ 0 by decide) (show (12 : Nat) ≠ 23 by decide)).1, v12]
      have := (w7 (nT M) (i % 8) h6 (Nat.mod_lt _ (by decide))).2 (Nat.le_refl _)
      rw [show 8 * nT M + i % 8 = i by omega] at this
      exact this.symm
    · rw [(sm (12, 0, i / 8) (show (12 : Nat) ≠ 0 by decide) (show (12 : Nat) ≠ 23 by decide) (np12 e)).1]
      exact h.2.1 14 i (show i / 8 < nT M by omega)
  | 15, hd =>
    rw [show M1 15 i = M 15 i from congrFun (mo 15 (by decide) (by decide) (by decide) (by decide) (by decide)) i]
    have hi : i / 8 < nT M1 ∧ i % 8 < nB M1 (i / 8) := hd
    rw [hn, hB] at hi
    have hi2 : i / 8 < nT M := lt8 hi
    show zI S2 (2, i / 8, i % 8) 5 = M 15 i
    rw [(sm (2, i / 8, i % 8) (show (2 : Nat) ≠ 0 by decide) (show (2 : Nat) ≠ 23 by decide) (npk (show (2 : Nat) ≠ 0 by decide) (show (2 : Nat) ≠ 13 by decide) (show (2 : Nat) ≠ 12 by decide) (show (2 : Nat) ≠ 7 by decide) (show (2 : Nat) ≠ 8 by decide))).1]
    exact h.2.1 15 i ⟨hi2, hi.2⟩
  | 16, hd =>
    rw [show M1 16 i = M 16 i from congrFun (mo 16 (by decide) (by decide) (by decide) (by decide) (by decide)) i]
    have hi : i / 8 < nT M1 ∧ i % 8 < nB M1 (i / 8) := hd
    rw [hn, hB] at hi
    have hi2 : i / 8 < nT M := lt8 hi
    show zI S2 (2, i / 8, i % 8) 6 = M 16 i
    rw [(sm (2, i / 8, i % 8) (show (2 : Nat) ≠ 0 by decide) (show (2 : Nat) ≠ 23 by decide) (npk (show (2 : Nat) ≠ 0 by decide) (show (2 : Nat) ≠ 13 by decide) (show (2 : Nat) ≠ 12 by decide) (show (2 : Nat) ≠ 7 by decide) (show (2 : Nat) ≠ 8 by decide))).1]
    exact h.2.1 16 i ⟨hi2, hi.2⟩
  | 17, hd =>
    rw [show M1 17 i = M 17 i from congrFun (mo 17 (by decide) (by decide) (by decide) (by decide) (by decide)) i]
    have hi : i / 4 < nT M1 := hd
    rw [hn] at hi
    show vMd S2 (13, 0, i / 4) (i % 4) 0 (-1) = M 17 i
    by_cases e : i / 4 = nT M
    · have := (w8 (nT M) (i % 4) h6 (Nat.mod_lt _ (by decide))).2 (Nat.le_refl _)
      rw [show 4 * nT M + i % 4 = i by omega] at this
      rw [this, e]
      unfold vMd
      rw [(b1 (13, 0, nT M) (show (13 : Nat) ≠ 0 by decide) (show (13 : Nat) ≠ 23 by decide)).2.2.1, v13]
    · rw [vMd_eq (sm (13, 0, i / 4) (show (13 : Nat) ≠ 0 by decide) (show (13 : Nat) ≠ 23 by decide) (np13 e)).2 (fun n _ => s4 n)]
      exact h.2.1 17 i (show i / 4 < nT M by omega)
  | 18, hd =>
    rw [show M1 18 i = M 18 i from congrFun (mo 18 (by decide) (by decide) (by decide) (by decide) (by decide)) i]
    have hi : i / 4 < nT M1 ∧ M1 17 i ≠ -1 := hd
    rw [hn, m17] at hi
    show vMd S2 (13, 0, i / 4) (i % 4) 1 0 = M 18 i
    by_cases e : i / 4 = nT M
    · have := (w8 (nT M) (i % 4) h6 (Nat.mod_lt _ (by decide))).2 (Nat.le_refl _)
      rw [show 4 * nT M + i % 4 = i by omega] at this
      exact absurd this hi.2
    · rw [vMd_eq (sm (13, 0, i / 4) (show (13 : Nat) ≠ 0 by decide) (show (13 : Nat) ≠ 23 by decide) (np13 e)).2 (fun n _ => s4 n)]
      exact h.2.1 18 i ⟨by omega, hi.2⟩
  | 19, hd =>
    rw [show M1 19 i = M 19 i from congrFun (mo 19 (by decide) (by decide) (by decide) (by decide) (by decide)) i]
    have hi : i / 4 < nT M1 ∧ M1 17 i ≠ -1 := hd
    rw [hn, m17] at hi
    show vMd S2 (13, 0, i / 4) (i % 4) 2 0 = M 19 i
    by_cases e : i / 4 = nT M
    · have := (w8 (nT M) (i % 4) h6 (Nat.mod_lt _ (by decide))).2 (Nat.le_refl _)
      rw [show 4 * nT M + i % 4 = i by omega] at this
      exact absurd this hi.2
    · rw [vMd_eq (sm (13, 0, i / 4) (show (13 : Nat) ≠ 0 by decide) (show (13 : Nat) ≠ 23 by decide) (np13 e)).2 (fun n _ => s4 n)]
      exact h.2.1 19 i ⟨by omega, hi.2⟩
  | 20, hd =>
    rw [show M1 20 i = M 20 i from congrFun (mo 20 (by decide) (by decide) (by decide) (by decide) (by decide)) i]
    have hi : i / 4 < nT M1 ∧ M1 17 i ≠ -1 := hd
    rw [hn, m17] at hi
    show vMd S2 (13, 0, i / 4) (i % 4) 3 0 = M 20 i
    by_cases e : i / 4 = nT M
    · have := (w8 (nT M) (i % 4) h6 (Nat.mod_lt _ (by decide))).2 (Nat.le_refl _)
      rw [show 4 * nT M + i % 4 = i by omega] at this
      exact absurd this hi.2
    · rw [vMd_eq (sm (13, 0, i / 4) (show (13 : Nat) ≠ 0 by decide) (show (13 : Nat) ≠ 23 by decide) (np13 e)).2 (fun n _ => s4 n)]
      exact h.2.1 20 i ⟨by omega, hi.2⟩
  | 21, hd =>
    rw [show M1 21 i = M 21 i from congrFun (mo 21 (by decide) (by decide) (by decide) (by decide) (by decide)) i]
    have hi : i / 4 < nT M1 ∧ M1 17 i ≠ -1 := hd
    rw [hn, m17] at hi
    show vMd S2 (13, 0, i / 4) (i % 4) 4 0 = M 21 i
    by_cases e : i / 4 = nT M
    · have := (w8 (nT M) (i % 4) h6 (Nat.mod_lt _ (by decide))).2 (Nat.le_refl _)
      rw [show 4 * nT M + i % 4 = i by omega] at this
      exact absurd this hi.2
    · rw [vMd_eq (sm (13, 0, i / 4) (show (13 : Nat) ≠ 0 by decide) (show (13 : Nat) ≠ 23 by decide) (np13 e)).2 (fun n _ => s4 n)]
      exact h.2.1 21 i ⟨by omega, hi.2⟩
  | 22, hd =>
    rw [show M1 22 i = M 22 i from congrFun (mo 22 (by decide) (by decide) (by decide) (by decide) (by decide)) i]
    have hd : i = 0 := hd
    show zI S2 (10, 0, 0) 8 = M 22 i
    rw [(sm (10, 0, 0) (show (10 : Nat) ≠ 0 by decide) (show (10 : Nat) ≠ 23 by decide) (npk (show (10 : Nat) ≠ 0 by decide) (show (10 : Nat) ≠ 13 by decide) (show (10 : Nat) ≠ 12 by decide) (show (10 : Nat) ≠ 7 by decide) (show (10 : Nat) ≠ 8 by decide))).1]
    exact h.2.1 22 i hd
  | 23, hd =>
    rw [show M1 23 i = M 23 i from congrFun (mo 23 (by decide) (by decide) (by decide) (by decide) (by decide)) i]
    have hd : i < 60 := hd
    show zI S2 (21, 0, 0) i = M 23 i
    rw [(sm (21, 0, 0) (show (21 : Nat) ≠ 0 by decide) (show (21 : Nat) ≠ 23 by decide) (npk (show (21 : Nat) ≠ 0 by decide) (show (21 : Nat) ≠ 13 by decide) (show (21 : Nat) ≠ 12 by decide) (show (21 : Nat) ≠ 7 by decide) (show (21 : Nat) ≠ 8 by decide))).1]
    exact h.2.1 23 i hd
  | 24, hd =>
    rw [show M1 24 i = M 24 i from congrFun (mo 24 (by decide) (by decide) (by decide) (by decide) (by decide)) i]
    have hi : i = 0 := hd
    subst hi
    show zI S2 (0, 1, 0) 2 = M 24 0
    rw [(b2 1 0 (by decide)).1, (x1 (0, 1, 0) np01).1]
    exact h.2.1 24 0 rfl
  | 25, hd =>
    rw [show M1 25 i = M 25 i from congrFun (mo 25 (by decide) (by decide) (by decide) (by decide) (by decide)) i]
    have hd : i < nG M1 := hd
    rw [hG] at hd
    show zI S2 (3, i, 0) 0 = M 25 i
    rw [(sm (3, i, 0) (show (3 : Nat) ≠ 0 by decide) (show (3 : Nat) ≠ 23 by decide) (npk (show (3 : Nat) ≠ 0 by decide) (show (3 : Nat) ≠ 13 by decide) (show (3 : Nat) ≠ 12 by decide) (show (3 : Nat) ≠ 7 by decide) (show (3 : Nat) ≠ 8 by decide))).1]
    exact h.2.1 25 i hd
  | 26, hd =>
    rw [show M1 26 i = M 26 i from congrFun (mo 26 (by decide) (by decide) (by decide) (by decide) (by decide)) i]
    have hd : i < nG M1 := hd
    rw [hG] at hd
    show 3 - zI S2 (3, i, 0) 5 = M 26 i
    rw [(sm (3, i, 0) (show (3 : Nat) ≠ 0 by decide) (show (3 : Nat) ≠ 23 by decide) (npk (show (3 : Nat) ≠ 0 by decide) (show (3 : Nat) ≠ 13 by decide) (show (3 : Nat) ≠ 12 by decide) (show (3 : Nat) ≠ 7 by decide) (show (3 : Nat) ≠ 8 by decide))).1]
    exact h.2.1 26 i hd
  | 27, hd =>
    rw [show M1 27 i = M 27 i from congrFun (mo 27 (by decide) (by decide) (by decide) (by decide) (by decide)) i]
    have hd : i < nG M1 := hd
    rw [hG] at hd
    show zI S2 (6, 0, i) 3 = M 27 i
    rw [(sm (6, 0, i) (show (6 : Nat) ≠ 0 by decide) (show (6 : Nat) ≠ 23 by decide) (npk (show (6 : Nat) ≠ 0 by decide) (show (6 : Nat) ≠ 13 by decide) (show (6 : Nat) ≠ 12 by decide) (show (6 : Nat) ≠ 7 by decide) (show (6 : Nat) ≠ 8 by decide))).1]
    exact h.2.1 27 i hd
  | 28, hd =>
    rw [show M1 28 i = M 28 i from congrFun (mo 28 (by decide) (by decide) (by decide) (by decide) (by decide)) i]
    have hd : i / 8 < nG M1 := hd
    rw [hG] at hd
    show zI S2 (12, 1, i / 8) (i % 8) = M 28 i
    rw [(sm (12, 1, i / 8) (show (12 : Nat) ≠ 0 by decide) (show (12 : Nat) ≠ 23 by decide) np121).1]
    exact h.2.1 28 i hd
  | 29, hd =>
    rw [show M1 29 i = M 29 i from congrFun (mo 29 (by decide) (by decide) (by decide) (by decide) (by decide)) i]
    have hd : i / 4 < nG M1 := hd
    rw [hG] at hd
    show vMd S2 (13, 1, i / 4) (i % 4) 0 (-1) = M 29 i
    rw [vMd_eq (sm (13, 1, i / 4) (show (13 : Nat) ≠ 0 by decide) (show (13 : Nat) ≠ 23 by decide) np131).2 (fun n _ => s4 n)]
    exact h.2.1 29 i hd
  | 30, hd =>
    rw [show M1 30 i = M 30 i from congrFun (mo 30 (by decide) (by decide) (by decide) (by decide) (by decide)) i]
    have hd : i / 4 < nG M1 ∧ M1 29 i ≠ -1 := hd
    rw [hG, m29] at hd
    show vMd S2 (13, 1, i / 4) (i % 4) 1 0 = M 30 i
    rw [vMd_eq (sm (13, 1, i / 4) (show (13 : Nat) ≠ 0 by decide) (show (13 : Nat) ≠ 23 by decide) np131).2 (fun n _ => s4 n)]
    exact h.2.1 30 i hd
  | 31, hd =>
    rw [show M1 31 i = M 31 i from congrFun (mo 31 (by decide) (by decide) (by decide) (by decide) (by decide)) i]
    have hd : i / 4 < nG M1 ∧ M1 29 i ≠ -1 := hd
    rw [hG, m29] at hd
    show vMd S2 (13, 1, i / 4) (i % 4) 2 0 = M 31 i
    rw [vMd_eq (sm (13, 1, i / 4) (show (13 : Nat) ≠ 0 by decide) (show (13 : Nat) ≠ 23 by decide) np131).2 (fun n _ => s4 n)]
    exact h.2.1 31 i hd
  | 32, hd =>
    rw [show M1 32 i = M 32 i from congrFun (mo 32 (by decide) (by decide) (by decide) (by decide) (by decide)) i]
    have hd : i / 4 < nG M1 ∧ M1 29 i ≠ -1 := hd
    rw [hG, m29] at hd
    show vMd S2 (13, 1, i / 4) (i % 4) 3 0 = M 32 i
    rw [vMd_eq (sm (13, 1, i / 4) (show (13 : Nat) ≠ 0 by decide) (show (13 : Nat) ≠ 23 by decide) np131).2 (fun n _ => s4 n)]
    exact h.2.1 32 i hd
  | 33, hd =>
    rw [show M1 33 i = M 33 i from congrFun (mo 33 (by decide) (by decide) (by decide) (by decide) (by decide)) i]
    have hd : i / 4 < nG M1 ∧ M1 29 i ≠ -1 := hd
    rw [hG, m29] at hd
    show vMd S2 (13, 1, i / 4) (i % 4) 4 0 = M 33 i
    rw [vMd_eq (sm (13, 1, i / 4) (show (13 : Nat) ≠ 0 by decide) (show (13 : Nat) ≠ 23 by decide) np131).2 (fun n _ => s4 n)]
    exact h.2.1 33 i hd
  | 34, hd =>
    rw [show M1 34 i = M 34 i from congrFun (mo 34 (by decide) (by decide) (by decide) (by decide) (by decide)) i]
    have hd : i < nG M1 := hd
    rw [hG] at hd
    show zI S2 (6, 0, i) 2 = M 34 i
    rw [(sm (6, 0, i) (show (6 : Nat) ≠ 0 by decide) (show (6 : Nat) ≠ 23 by decide) (npk (show (6 : Nat) ≠ 0 by decide) (show (6 : Nat) ≠ 13 by decide) (show (6 : Nat) ≠ 12 by decide) (show (6 : Nat) ≠ 7 by decide) (show (6 : Nat) ≠ 8 by decide))).1]
    exact h.2.1 34 i hd
  | 35, hd =>
    rw [show M1 35 i = M 35 i from congrFun (mo 35 (by decide) (by decide) (by decide) (by decide) (by decide)) i]
    have hd : i / 3 < nG M1 ∧ i % 3 < nD M1 (i / 3) := hd
    rw [hG, hD] at hd
    show zI S2 (14, 0, i / 3) (i % 3) = M 35 i
    rw [(sm (14, 0, i / 3) (show (14 : Nat) ≠ 0 by decide) (show (14 : Nat) ≠ 23 by decide) (npk (show (14 : Nat) ≠ 0 by decide) (show (14 : Nat) ≠ 13 by decide) (show (14 : Nat) ≠ 12 by decide) (show (14 : Nat) ≠ 7 by decide) (show (14 : Nat) ≠ 8 by decide))).1]
    exact h.2.1 35 i hd
  | 36, hd =>
    rw [show M1 36 i = M 36 i from congrFun (mo 36 (by decide) (by decide) (by decide) (by decide) (by decide)) i]
    have hd : i / 3 < nG M1 ∧ i % 3 < nD M1 (i / 3) := hd
    rw [hG, hD] at hd
    show zI S2 (15, 0, i / 3) (i % 3) = M 36 i
    rw [(sm (15, 0, i / 3) (show (15 : Nat) ≠ 0 by decide) (show (15 : Nat) ≠ 23 by decide) (npk (show (15 : Nat) ≠ 0 by decide) (show (15 : Nat) ≠ 13 by decide) (show (15 : Nat) ≠ 12 by decide) (show (15 : Nat) ≠ 7 by decide) (show (15 : Nat) ≠ 8 by decide))).1]
    exact h.2.1 36 i hd
  | 49, hd =>
    rw [show M1 49 i = M 49 i from congrFun (mo 49 (by decide) (by decide) (by decide) (by decide) (by decide)) i]
    have hd : i < 2 := hd
    show zI S2 (9, i, 0) 1 = M 49 i
    rw [(sm (9, i, 0) (show (9 : Nat) ≠ 0 by decide) (show (9 : Nat) ≠ 23 by decide) (npk (show (9 : Nat) ≠ 0 by decide) (show (9 : Nat) ≠ 13 by decide) (show (9 : Nat) ≠ 12 by decide) (show (9 : Nat) ≠ 7 by decide) (show (9 : Nat) ≠ 8 by decide))).1]
    exact h.2.1 49 i hd
  | 50, hd =>
    rw [show M1 50 i = M 50 i from congrFun (mo 50 (by decide) (by decide) (by decide) (by decide) (by decide)) i]
    have hd : i < 4 := hd
    show zI S2 (20, i / 2, 0) (i % 2) = M 50 i
    rw [(sm (20, i / 2, 0) (show (20 : Nat) ≠ 0 by decide) (show (20 : Nat) ≠ 23 by decide) (npk (show (20 : Nat) ≠ 0 by decide) (show (20 : Nat) ≠ 13 by decide) (show (20 : Nat) ≠ 12 by decide) (show (20 : Nat) ≠ 7 by decide) (show (20 : Nat) ≠ 8 by decide))).1]
    exact h.2.1 50 i hd
  | 0, hd => exact hd.elim
  | 37, hd => exact hd.elim
  | 38, hd => exact hd.elim
  | 39, hd => exact hd.elim
  | 40, hd => exact hd.elim
  | 41, hd => exact hd.elim
  | 42, hd => exact hd.elim
  | 43, hd => exact hd.elim
  | 44, hd => exact hd.elim
  | 45, hd => exact hd.elim
  | 46, hd => exact hd.elim
  | 47, hd => exact hd.elim
  | 48, hd => exact hd.elim
  | n + 51, hd => exact hd.elim
end PT
