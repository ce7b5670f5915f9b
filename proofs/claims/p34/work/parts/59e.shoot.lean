/-! shoot -/
def bSh10 (i_1 : Int32) (i_2 : Int32) (i_3 : Int32) (i_4 : Int32) (x17 : Int32) (x18 : Int32) : (Int32 × zMs) → Option ((Int32 × zMs) ⊕ (Int32 × zMs)) := fun (q20 : (Int32 × zMs)) =>
if (8 : Int32) ≤ q20.1 then
cl (fX10_load q20.2 x17) fun M28 =>
st (M28 41 0) fun x29 =>
cl (fX10_roll M28 i_1 x18 i_2 i_3 i_4) fun M32 =>
cl (fX10_keep M32 x17) fun M35 =>
gd (¬ (x17 < 0 ∨ 40 ≤ x17.toNatClampNeg)) (
gd (¬ (x17 < 0 ∨ 40 ≤ x17.toNatClampNeg)) (
st (pM M35 26 x17.toNatClampNeg ((M35 26 x17.toNatClampNeg) - (1 : Int32))) fun M36 =>
gd (¬ (x17 < 0 ∨ 40 ≤ x17.toNatClampNeg)) (
st (fun (y37 : Int32) => (gd (¬ (i_1 < 0 ∨ 6 ≤ i_1.toNatClampNeg)) (
st (pM M36 7 i_1.toNatClampNeg y37) fun M39 =>
some (.inr ((((M39 41 0) - x29), M39)))) : Option ((Int32 × zMs) ⊕ (Int32 × zMs)))) fun j38 =>
if (M36 26 x17.toNatClampNeg) = 0 then
j38 (-1 : Int32)
else
j38 x17)))
else
gd (¬ ((((8 : Int32) * i_1) + q20.1) < 0 ∨ 48 ≤ (((8 : Int32) * i_1) + q20.1).toNatClampNeg)) (
gd (¬ ((((8 : Int32) * x18) + q20.1) < 0 ∨ 960 ≤ (((8 : Int32) * x18) + q20.1).toNatClampNeg)) (
st (pM q20.2 39 (((8 : Int32) * x18) + q20.1).toNatClampNeg ((q20.2 16 (((8 : Int32) * i_1) + q20.1).toNatClampNeg) + (1 : Int32))) fun M40 =>
st (q20.1 + (1 : Int32)) fun x41 =>
some (.inl (x41, M40))))
def shX (i_1 i_2 i_3 i_4 : Int32) (M15 : zMs) : Option (Int32 × zMs) :=
gd (¬ (i_1 < 0 ∨ 6 ≤ i_1.toNatClampNeg)) (
st (M15 7 i_1.toNatClampNeg) fun x17 =>
gd (¬ (x17 < 0 ∨ 40 ≤ x17.toNatClampNeg)) (
st ((((3 : Int32) * x17) + (3 : Int32)) - (M15 26 x17.toNatClampNeg)) fun x18 =>
st (0 : Int32) fun x19 =>
lp (bSh10 i_1 i_2 i_3 i_4 x17 x18) 40000 (x19, M15)))
def shT (M : zMs) (i_1 : Int32) (i_2 : Int32) (i_3 : Int32) (i_4 : Int32) (y4 : Int32) : Option (Int32 × zMs) :=
st y4 fun x7 =>
cl (fX10_isTable M i_1) fun r8 =>
st (fun (y11 : Int32) => (cl2 (fX10_refused M y11) fun r13 M15 =>
if r13 = 0 then
shX i_1 i_2 i_3 i_4 M15
else
some (((0 : Int32), M15)) : Option (Int32 × zMs))) fun j12 =>
if r8 = 0 then
j12 (1 : Int32)
else
if x7 = 0 then
j12 (2 : Int32)
else
cl (fX10_isFree M i_1) fun r42 =>
if r42 = 0 then
j12 (0 : Int32)
else
j12 (3 : Int32)
section PSH
variable {S S1 S2 Sb : zSt} {M M1 Mb : zMs} {t g n bi N : Nat} {v7 : Int32}
def mSh (M1 : zMs) (t g bi N : Nat) (v7 : Int32) : zMs := pM (pM (keM (pM M1 37 (3 * g + bi) (nI N)) g 3) 26 g (nI (2 - bi))) 7 t v7
/-- behind the ball -/
def ShH (S : zSt) (M : zMs) (t g n bi : Nat) (Sb : zSt) (Mb : zMs) (S1 : zSt) (M1 : zMs) (N : Nat) : Prop :=
  (Tie S M ∧ t < nT M ∧ g < nG M ∧ M 25 g = nI t ∧ nL M g = 3 - bi ∧ bi < 3 ∧ n = nB M t) ∧ eqX S Sb (fun c => c = (1, 0, 0)) ∧ (∀ k, k ≠ 0 → k ≠ 39 → (k < 40 ∨ 44 < k) → Mb k = M k) ∧ Mb 0 0 = 0 ∧
  (∀ u, Mb 39 u = if 8 * (3 * g + bi) ≤ u ∧ u < 8 * (3 * g + bi) + 8 then M 16 (8 * t + (u - 8 * (3 * g + bi))) + 1 else M 39 u) ∧
  MR Sb Mb t g n bi S1 M1 (ents M g ++ rlE M1 (3 * g + bi) bi N) ∧ (∀ q, q < N → ∃ a b, a ≤ 8 ∧ b ≤ 8 ∧ M1 38 (300 * (3 * g + bi) + q) = nI (a + 9 * b)) ∧ 1 ≤ N ∧ N ≤ 300
theorem sh_o (h : ShH S M t g n bi Sb Mb S1 M1 N) (k : Nat) (hk : k ≠ 0 ∧ k ≠ 7 ∧ k ≠ 15 ∧ k ≠ 26 ∧ k ≠ 27 ∧ (k < 34 ∨ 44 < k)) : mSh M1 t g bi N v7 k = M k := by
  obtain ⟨-, -, hb, -, -, hM, -⟩ := h
  unfold mSh
  rw [pMn (by omega), pMn (by omega), keM_o _ _ (by omega), pMn (by omega), hM.2.1.1 k (by omega) (by omega) (by omega) (by omega) (by omega) (by omega), hb k (by omega) (by omega) (by omega)]
theorem sh_00 (h : ShH S M t g n bi Sb Mb S1 M1 N) : mSh M1 t g bi N v7 0 0 = 0 := by
  obtain ⟨-, -, -, h0, -, hM, -⟩ := h
  unfold mSh
  rw [pMn (by omega), pMn (by omega), keM_o _ _ (by omega), pMn (by omega), hM.2.1.1 0 (by omega) (by omega) (by omega) (by omega) (by omega) (by omega), h0]
theorem sh_7 (h : ShH S M t g n bi Sb Mb S1 M1 N) (u : Nat) : mSh M1 t g bi N v7 7 u = if u = t then v7 else M 7 u := by
  obtain ⟨-, -, hb, -, -, hM, -⟩ := h
  unfold mSh
  rw [pM_at]
  by_cases e : u = t
  · rw [if_pos ⟨rfl, e⟩, if_pos e]
  · rw [if_neg (fun q => e q.2), if_neg e, pMn (by omega), keM_o _ _ (by omega), pMn (by omega), hM.2.1.1 7 (by omega) (by omega) (by omega) (by omega) (by omega) (by omega), hb 7 (by omega) (by omega) (by omega)]
theorem sh_26 (h : ShH S M t g n bi Sb Mb S1 M1 N) (u : Nat) : mSh M1 t g bi N v7 26 u = if u = g then nI (2 - bi) else M 26 u := by
  obtain ⟨-, -, hb, -, -, hM, -⟩ := h
  unfold mSh
  rw [pMn (by omega), pM_at]
  by_cases e : u = g
  · rw [if_pos ⟨rfl, e⟩, if_pos e]
  · rw [if_neg (fun q => e q.2), if_neg e, keM_o _ _ (by omega), pMn (by omega), hM.2.1.1 26 (by omega) (by omega) (by omega) (by omega) (by omega) (by omega), hb 26 (by omega) (by omega) (by omega)]
theorem sh_15 (M1 : zMs) : mSh M1 t g bi N v7 15 = M1 15 := by
  unfold mSh
  rw [pMn (by omega), pMn (by omega), keM_o _ _ (by omega), pMn (by omega)]
theorem sh_38 (M1 : zMs) : mSh M1 t g bi N v7 38 = M1 38 := by
  unfold mSh
  rw [pMn (by omega), pMn (by omega), keM_o _ _ (by omega), pMn (by omega)]
theorem sh_39 (M1 : zMs) : mSh M1 t g bi N v7 39 = M1 39 := by
  unfold mSh
  rw [pMn (by omega), pMn (by omega), keM_o _ _ (by omega), pMn (by omega)]
theorem sh_37 (h : ShH S M t g n bi Sb Mb S1 M1 N) (u : Nat) : mSh M1 t g bi N v7 37 u = if u = 3 * g + bi then nI N else M 37 u := by
  obtain ⟨-, -, hb, -, -, hM, -⟩ := h
  unfold mSh
  rw [pMn (by omega), pMn (by omega), keM_o _ _ (by omega), pM_at]
  by_cases e : u = 3 * g + bi
  · rw [if_pos ⟨rfl, e⟩, if_pos e]
  · rw [if_neg (fun q => e q.2), if_neg e, hM.2.1.1 37 (by omega) (by omega) (by omega) (by omega) (by omega) (by omega), hb 37 (by omega) (by omega) (by omega)]
theorem sh_27 (h : ShH S M t g n bi Sb Mb S1 M1 N) (u : Nat) : mSh M1 t g bi N v7 27 u = (if u = g then M1 41 0 else M 27 u) ∧ mSh M1 t g bi N v7 34 u = if u = g then M1 42 0 else M 34 u := by
  obtain ⟨-, -, hb, -, -, hM, -⟩ := h
  have a27 : M1 27 = M 27 := (hM.2.1.1 27 (by omega) (by omega) (by omega) (by omega) (by omega) (by omega)).trans (hb 27 (by omega) (by omega) (by omega))
  have a34 : M1 34 = M 34 := (hM.2.1.1 34 (by omega) (by omega) (by omega) (by omega) (by omega) (by omega)).trans (hb 34 (by omega) (by omega) (by omega))
  unfold mSh
  rw [pMn (by omega), pMn (by omega), keM_27, pMn (by omega), pMn (by omega), pMn (by omega), pMn (by omega), keM_34, pMn (by omega), pMn (by omega), a27, a34]
  exact ⟨rfl, rfl⟩
theorem sh_35 (h : ShH S M t g n bi Sb Mb S1 M1 N) (u : Nat) : mSh M1 t g bi N v7 35 u = (if 3 * g ≤ u ∧ u < 3 * g + 3 then M1 43 (u - 3 * g) else M 35 u) ∧ mSh M1 t g bi N v7 36 u = if 3 * g ≤ u ∧ u < 3 * g + 3 then M1 44 (u - 3 * g) else M 36 u := by
  obtain ⟨-, -, hb, -, -, hM, -⟩ := h
  have a35 : M1 35 = M 35 := (hM.2.1.1 35 (by omega) (by omega) (by omega) (by omega) (by omega) (by omega)).trans (hb 35 (by omega) (by omega) (by omega))
  have a36 : M1 36 = M 36 := (hM.2.1.1 36 (by omega) (by omega) (by omega) (by omega) (by omega) (by omega)).trans (hb 36 (by omega) (by omega) (by omega))
  obtain ⟨k1, k2⟩ := keM_35 (pM M1 37 (3 * g + bi) (nI N)) g 3 u
  unfold mSh
  rw [pMn (by omega), pMn (by omega), k1, pMn (by omega), pMn (by omega), pMn (by omega), pMn (by omega), k2, pMn (by omega), pMn (by omega), a35, a36]
  exact ⟨rfl, rfl⟩
theorem sh_n (h : ShH S M t g n bi Sb Mb S1 M1 N) : nT (mSh M1 t g bi N v7) = nT M ∧ (∀ u, nB (mSh M1 t g bi N v7) u = nB M u) ∧ nG (mSh M1 t g bi N v7) = nG M ∧ nS (mSh M1 t g bi N v7) = nS M ∧ (∀ u, u ≠ g → nD (mSh M1 t g bi N v7) u = nD M u) ∧ (∀ u, nL (mSh M1 t g bi N v7) u = if u = g then 2 - bi else nL M u) := by
  refine ⟨by unfold nT; rw [sh_o h 1 (by omega)], fun u => by unfold nB; rw [sh_o h 8 (by omega)], by unfold nG; rw [sh_o h 24 (by omega)], by unfold nS; rw [sh_o h 22 (by omega)], fun u hu => by unfold nD; rw [(sh_27 h u).2, if_neg hu], fun u => ?_⟩
  unfold nL
  rw [sh_26 h]
  by_cases e : u = g
  · rw [if_pos e, if_pos e]; exact nI_clamp (by omega)
  · rw [if_neg e, if_neg e]
/-- rows 38 and 39 of other balls -/
theorem sh_b (h : ShH S M t g n bi Sb Mb S1 M1 N) {ball : Nat} (hb : ball ≠ 3 * g + bi) : (∀ s, s < 300 → mSh M1 t g bi N v7 38 (300 * ball + s) = M 38 (300 * ball + s)) ∧ (∀ k, k < 8 → mSh M1 t g bi N v7 39 (8 * ball + k) = M 39 (8 * ball + k)) ∧ mSh M1 t g bi N v7 37 ball = M 37 ball := by
  obtain ⟨h0, h1, h2, h3, h4, h5, h6, h7⟩ := h
  refine ⟨fun s hs => ?_, fun k hk => ?_, ?_⟩
  · rw [sh_38, h5.2.1.2.2 _ (by omega), h2 38 (by omega) (by omega) (by omega)]
  · rw [sh_39, h5.2.1.1 39 (by omega) (by omega) (by omega) (by omega) (by omega) (by omega), h4, if_neg (by omega)]
  · rw [sh_37 ⟨h0, h1, h2, h3, h4, h5, h6, h7⟩, if_neg hb]
theorem sh_wm (h : ShH S M t g n bi Sb Mb S1 M1 N) (hv : (bi = 2 ∧ v7 = -1) ∨ (bi < 2 ∧ v7 = nI g)) : WM (mSh M1 t g bi N v7) := by
  obtain ⟨eT, eB, eG, eS, eD, eL⟩ := sh_n (v7 := v7) h
  have hh := h
  obtain ⟨⟨hT, ht, hg, h25, hL, hbi, hn⟩, h1, h2, h3, h4, h5, h6, N1, N2⟩ := h
  have hG4 := nG40 hT.1
  have hT6 := nT6 hT.1
  have hB8 := nB8 hT.1 (t := t) (by omega)
  obtain ⟨w1, w2, w3, w4, w5, w6, w7, w8, w9, w10, w11, w12⟩ := hT.1
  obtain ⟨-, m2, m3, ⟨d, m4⟩, m5, -, -⟩ := h5
  obtain ⟨p40, p42, p3, ps2, ps3, ps⟩ := m4
  have o (k : Nat) (hk : k ≠ 0 ∧ k ≠ 7 ∧ k ≠ 15 ∧ k ≠ 26 ∧ k ≠ 27 ∧ (k < 34 ∨ 44 < k)) : mSh M1 t g bi N v7 k = M k := sh_o hh k hk
  unfold WM
  rw [o 1 (by omega), o 24 (by omega), o 22 (by omega), o 8 (by omega), o 4 (by omega), o 5 (by omega), o 6 (by omega), o 2 (by omega), o 25 (by omega), o 9 (by omega), o 10 (by omega), o 11 (by omega), o 12 (by omega), o 13 (by omega), o 16 (by omega), o 14 (by omega), o 17 (by omega), o 18 (by omega), o 19 (by omega), o 20 (by omega), o 21 (by omega), o 49 (by omega), o 50 (by omega), o 23 (by omega), eT, eG, eS]
  refine ⟨w1, w2, w3, w4, fun u hu => ⟨(w5 u hu).1, ?_⟩, fun u k hu hk => ?_, w7, w8, fun u hu => ⟨fun hn => ?_, fun hn => ?_⟩, w10, w11, w12⟩
  · rw [sh_7 hh]
    by_cases e : u = t
    · rw [if_pos e]
      rcases hv with ⟨b2, e7⟩ | ⟨b2, e7⟩
      · exact Or.inl e7
      · exact Or.inr ⟨g, hg, e7, by rw [e]; exact h25, by rw [eL, if_pos rfl]; omega⟩
    · rw [if_neg e]
      rcases (w5 u hu).2 with q | ⟨q, q1, q2, q3, q4⟩
      · exact Or.inl q
      · refine Or.inr ⟨q, q1, q2, q3, ?_⟩
        have hq : q ≠ g := by
          intro e2
          rw [e2, h25] at q3
          have := (nI_eq (by omega) (by omega)).mp q3
          omega
        rw [eL, if_neg hq]
        exact q4
  · obtain ⟨a1, a2⟩ := w6 u k hu hk
    rw [eB, sh_15]
    refine ⟨a1, fun hn2 => ⟨(a2 hn2).1, ?_⟩⟩
    rw [m2.2.1 _ (by by_cases e : u = t
                     · rw [e] at hn2 ⊢; right; omega
                     · omega), h2 15 (by omega) (by omega) (by omega)]
    exact (a2 hn2).2
  · by_cases e : u = g
    · rw [e]
      obtain ⟨⟨t0, g1, g1b⟩, g2, g3, g4, g5, g6, g7⟩ := (w9 g (by omega)).1 hg
      have eDg : nD (mSh M1 t g bi N v7) g = d := by
        unfold nD
        rw [(sh_27 hh g).2, if_pos rfl, p42]
        exact nI_clamp (by omega)
      refine ⟨⟨t0, by rw [eT]; exact g1, by rw [o 25 (by omega)]; exact g1b⟩, by rw [sh_26 hh, if_pos rfl]; exact ⟨2 - bi, Nat.zero_le _, by omega, rfl⟩, by rw [(sh_27 hh g).2, if_pos rfl, p42]; exact ⟨d, Nat.zero_le _, p3, rfl⟩, fun k hk => ?_, fun k hk => by rw [o 28 (by omega)]; exact g5 k hk, fun j hj => by rw [o 29 (by omega), o 30 (by omega), o 31 (by omega), o 32 (by omega), o 33 (by omega)]; exact g6 j hj, fun b hb => ?_⟩
      · rw [eDg] at hk
        obtain ⟨j, hj, j1, j2, j3, j4⟩ := ps k hk
        refine ⟨j, hj, ?_, ?_⟩
        · rw [(sh_35 hh _).1, if_pos (by omega), show 3 * g + k - 3 * g = k by omega]; exact j1
        · rw [o 29 (by omega), ← h2 29 (by omega) (by omega) (by omega), ← m2.1 29 (by omega) (by omega) (by omega) (by omega) (by omega) (by omega)]; exact j3
      · rw [eL, if_pos rfl] at hb
        by_cases eb : b = bi
        · rw [eb]
          refine ⟨N, N1, N2, by rw [sh_37 hh, if_pos rfl], fun s hs => ?_, fun k hk => ?_⟩
          · obtain ⟨a, b, a1, a2, a3⟩ := h6 s hs
            exact ⟨a, b, a1, a2, by rw [sh_38]; exact a3⟩
          · rw [sh_39, m2.1 39 (by omega) (by omega) (by omega) (by omega) (by omega) (by omega), h4, if_pos (by omega), show 8 * t + (8 * (3 * g + bi) + k - 8 * (3 * g + bi)) = 8 * t + k by omega]
            by_cases hkn : k < nB M t
            · obtain ⟨-, -, -, -, -, r6⟩ := (w6 t k (by omega) hk).1 hkn
              have hS6 := nS60 hT.1
              rcases r6 with r6 | ⟨q, q1, r6⟩
              · rw [r6]; exact ⟨0, by omega, by omega, by decide⟩
              · rw [r6, nI_1]; exact ⟨q + 1, by omega, by omega, rfl⟩
            · rw [((w6 t k (by omega) hk).2 (by omega)).1]; exact ⟨0, by omega, by omega, by decide⟩
        · obtain ⟨x1, x2, x3⟩ := sh_b (v7 := v7) hh (ball := 3 * g + b) (by omega)
          obtain ⟨N', n1, n2, n3, n4, n5⟩ := g7 b (by omega)
          exact ⟨N', n1, n2, by rw [x3]; exact n3, fun s hs => by rw [x1 s (by omega)]; exact n4 s hs, fun k hk => by rw [x2 k hk]; exact n5 k hk⟩
    · refine gm_pt ((w9 u hu).1 hn) (by rw [eT]; exact Nat.le_refl _) (congrFun (o 25 (by omega)) u) (by rw [sh_26 hh, if_neg e]) (by rw [(sh_27 hh u).2, if_neg e]) (fun k hk => by rw [(sh_35 hh _).1, if_neg (by omega)]) (o 28 (by omega)) (o 29 (by omega)) (o 30 (by omega)) (o 31 (by omega)) (o 32 (by omega)) (o 33 (by omega)) (fun b hb => (sh_b hh (by omega)).2.2) (fun b s hb hs => (sh_b hh (by omega)).1 s hs) (fun b k hb hk => (sh_b hh (by omega)).2.1 k hk)
  · rw [(sh_27 hh u).1, (sh_27 hh u).2, if_neg (by omega), if_neg (by omega)]
    exact (w9 u hu).2 hn
/-- what has changed of the class's numbers -/
def shC (t g : Nat) (c : zId) (k : Nat) : Prop := c.1 = 1 ∨ (c.1 = 2 ∧ c.2.1 = t ∧ k = 5) ∨ c = (6, 0, g) ∨ c = (14, 0, g) ∨ c = (15, 0, g) ∨ (c = (3, g, 0) ∧ (k = 4 ∨ k = 5)) ∨ (c = (8, t, 0) ∧ k = 4)
def ShE (S1 S2 : zSt) (t g bi : Nat) (v7 : Int32) : Prop := zI S2 (8, t, 0) 4 = v7 ∧ (∀ c k, ¬ (c = (8, t, 0) ∧ k = 4) → ¬ (c = (3, g, 0) ∧ k = 5) → zI S2 c k = zI S1 c k) ∧ zI S2 (3, g, 0) 5 = nI (bi + 1) ∧ (∀ c, zL S2 c = zL S1 c) ∧ (∀ c, zQ S2 c = zQ S1 c) ∧ (∀ c, zN S2 c = zN S1 c) ∧ ∀ c, zV S2 c = if c = (1, 0, 0) then false else zV S1 c
theorem sh_z (h : ShH S M t g n bi Sb Mb S1 M1 N) (he : ShE S1 S2 t g bi v7) {c : zId} {k : Nat} (hc : ¬ shC t g c k) : zI S2 c k = zI S c k := by
  obtain ⟨-, h1, -, -, -, h5, -⟩ := h
  obtain ⟨s1, s2, s3, -⟩ := h5.1
  have c1 : c.1 ≠ 1 := fun e => hc (Or.inl e)
  have cb : c ≠ (1, 0, 0) := fun e => c1 (by rw [e])
  have c6 : c ≠ (6, 0, g) := fun e => hc (Or.inr (Or.inr (Or.inl e)))
  have c14 : c ≠ (14, 0, g) := fun e => hc (Or.inr (Or.inr (Or.inr (Or.inl e))))
  have c15 : c ≠ (15, 0, g) := fun e => hc (Or.inr (Or.inr (Or.inr (Or.inr (Or.inl e)))))
  have c3 : c = (3, g, 0) → ¬ (k = 4 ∨ k = 5) := fun e q => hc (Or.inr (Or.inr (Or.inr (Or.inr (Or.inr (Or.inl ⟨e, q⟩))))))
  have c8 : ¬ (c = (8, t, 0) ∧ k = 4) := fun q => hc (Or.inr (Or.inr (Or.inr (Or.inr (Or.inr (Or.inr q))))))
  rw [he.2.1 c k c8 (fun q => c3 q.1 (Or.inr q.2))]
  have eb : zI Sb c = zI S c := (h1 c cb).1
  by_cases e3 : c = (3, g, 0)
  · rw [← eb, e3]
    exact s3 k (fun q => c3 e3 (Or.inl q))
  · by_cases e2 : c.1 = 2 ∧ c.2.1 = t
    · obtain ⟨a, b, d⟩ := c
      obtain ⟨rfl, rfl⟩ := e2
      rw [← eb]
      exact s2 d k (fun q => hc (Or.inr (Or.inl ⟨rfl, rfl, q⟩)))
    · rw [s1 c c1 e2 c6 c14 c15 e3, eb]
theorem sh_ag (h : ShH S M t g n bi Sb Mb S1 M1 N) (he : ShE S1 S2 t g bi v7) (hv : (bi = 2 ∧ v7 = -1) ∨ (bi < 2 ∧ v7 = nI g)) : AG S2 (mSh M1 t g bi N v7) := by
  obtain ⟨eT, eB, eG, eS, eD, eL⟩ := sh_n (v7 := v7) h
  have hh := h
  have z : ∀ {c : zId} {k : Nat}, ¬ shC t g c k → zI S2 c k = zI S c k := fun hc => sh_z hh he hc
  obtain ⟨⟨hT, ht, hg, h25, hL, hbi, hn⟩, h1, h2, h3, h4, h5, h6, N1, N2⟩ := h
  obtain ⟨m1, m2, m3, ⟨d, m4⟩, m5, -, -⟩ := h5
  obtain ⟨p40, p42, p3, ps2, ps3, ps⟩ := m4
  have o (k : Nat) (hk : k ≠ 0 ∧ k ≠ 7 ∧ k ≠ 15 ∧ k ≠ 26 ∧ k ≠ 27 ∧ (k < 34 ∨ 44 < k)) : mSh M1 t g bi N v7 k = M k := sh_o hh k hk
  have zq : ∀ c, c ≠ (1, 0, 0) → zQ S2 c = zQ S c := fun c hc => (he.2.2.2.2.1 c).trans ((m1.2.2.2.2.1 c).trans (h1 c hc).2.2.1)
  have i4 : ∀ n, zI S2 (4, n, 0) = zI S (4, n, 0) := fun n => funext (fun k => z (by unfold shC; simp only [Prod.mk.injEq]; omega))
  have zp : ∀ c k, c.1 = 6 ∨ c.1 = 14 ∨ c.1 = 15 → zI S2 c k = zI S1 c k := fun c k hc => he.2.1 c k (fun q => by rw [q.1] at hc; revert hc; simp) (fun q => by rw [q.1] at hc; revert hc; simp)
  have eDg : nD (mSh M1 t g bi N v7) g = d := by
    unfold nD
    rw [(sh_27 hh g).2, if_pos rfl, p42]
    exact nI_clamp (by omega)
  intro k i hd
  match k, hd with
  | 0, hd => exact hd.elim
  | 1, hd =>
    have hd : i = 0 := hd
    show zI S2 (0, 0, 0) 2 = mSh M1 t g bi N v7 1 i
    rw [o 1 (by omega), z (by unfold shC; simp only [Prod.mk.injEq]; omega)]
    exact hT.2.1 1 i hd
  | 2, hd =>
    have hd : i < nT (mSh M1 t g bi N v7) := hd
    rw [eT] at hd
    show zI S2 (8, i, 0) 0 = mSh M1 t g bi N v7 2 i
    rw [o 2 (by omega), z (by unfold shC; simp only [Prod.mk.injEq]; omega)]
    exact hT.2.1 2 i hd
  | 3, hd =>
    have hd : i < nT (mSh M1 t g bi N v7) := hd
    rw [eT] at hd
    show zI S2 (8, i, 0) 1 = mSh M1 t g bi N v7 3 i
    rw [o 3 (by omega), z (by unfold shC; simp only [Prod.mk.injEq]; omega)]
    exact hT.2.1 3 i hd
  | 4, hd =>
    have hd : i < nT (mSh M1 t g bi N v7) := hd
    rw [eT] at hd
    show zI S2 (8, i, 0) 5 = mSh M1 t g bi N v7 4 i
    rw [o 4 (by omega), z (by unfold shC; simp only [Prod.mk.injEq]; omega)]
    exact hT.2.1 4 i hd
  | 5, hd =>
    have hd : i < nT (mSh M1 t g bi N v7) := hd
    rw [eT] at hd
    show zI S2 (8, i, 0) 6 = mSh M1 t g bi N v7 5 i
    rw [o 5 (by omega), z (by unfold shC; simp only [Prod.mk.injEq]; omega)]
    exact hT.2.1 5 i hd
  | 6, hd =>
    have hd : i < nT (mSh M1 t g bi N v7) := hd
    rw [eT] at hd
    show zI S2 (8, i, 0) 7 = mSh M1 t g bi N v7 6 i
    rw [o 6 (by omega), z (by unfold shC; simp only [Prod.mk.injEq]; omega)]
    exact hT.2.1 6 i hd
  | 7, hd =>
    have hd : i < nT (mSh M1 t g bi N v7) := hd
    rw [eT] at hd
    show zI S2 (8, i, 0) 4 = mSh M1 t g bi N v7 7 i
    rw [sh_7 hh]
    by_cases e : i = t
    · rw [if_pos e, e]; exact he.1
    · rw [if_neg e, z (by unfold shC; simp only [Prod.mk.injEq]; omega)]; exact hT.2.1 7 i hd
  | 8, hd =>
    have hd : i < nT (mSh M1 t g bi N v7) := hd
    rw [eT] at hd
    show zI S2 (0, i + 2, 0) 2 = mSh M1 t g bi N v7 8 i
    rw [o 8 (by omega), z (by unfold shC; simp only [Prod.mk.injEq]; omega)]
    exact hT.2.1 8 i hd
  | 9, hd =>
    have hd : i / 8 < nT (mSh M1 t g bi N v7) ∧ i % 8 < nB (mSh M1 t g bi N v7) (i / 8) := hd
    rw [eT, eB] at hd
    show zI S2 (2, i / 8, i % 8) 0 = mSh M1 t g bi N v7 9 i
    rw [o 9 (by omega), z (by unfold shC; simp only [Prod.mk.injEq]; omega)]
    exact hT.2.1 9 i hd
  | 10, hd =>
    have hd : i / 8 < nT (mSh M1 t g bi N v7) ∧ i % 8 < nB (mSh M1 t g bi N v7) (i / 8) := hd
    rw [eT, eB] at hd
    show zI S2 (2, i / 8, i % 8) 1 = mSh M1 t g bi N v7 10 i
    rw [o 10 (by omega), z (by unfold shC; simp only [Prod.mk.injEq]; omega)]
    exact hT.2.1 10 i hd
  | 11, hd =>
    have hd : i / 8 < nT (mSh M1 t g bi N v7) ∧ i % 8 < nB (mSh M1 t g bi N v7) (i / 8) := hd
    rw [eT, eB] at hd
    show zI S2 (2, i / 8, i % 8) 2 = mSh M1 t g bi N v7 11 i
    rw [o 11 (by omega), z (by unfold shC; simp only [Prod.mk.injEq]; omega)]
    exact hT.2.1 11 i hd
  | 12, hd =>
    have hd : i / 8 < nT (mSh M1 t g bi N v7) ∧ i % 8 < nB (mSh M1 t g bi N v7) (i / 8) := hd
    rw [eT, eB] at hd
    show zI S2 (2, i / 8, i % 8) 3 = mSh M1 t g bi N v7 12 i
    rw [o 12 (by omega), z (by unfold shC; simp only [Prod.mk.injEq]; omega)]
    exact hT.2.1 12 i hd
  | 13, hd =>
    have hd : i / 8 < nT (mSh M1 t g bi N v7) ∧ i % 8 < nB (mSh M1 t g bi N v7) (i / 8) := hd
    rw [eT, eB] at hd
    show zI S2 (2, i / 8, i % 8) 4 = mSh M1 t g bi N v7 13 i
    rw [o 13 (by omega), z (by unfold shC; simp only [Prod.mk.injEq]; omega)]
    exact hT.2.1 13 i hd
  | 14, hd =>
    have hd : i / 8 < nT (mSh M1 t g bi N v7) := hd
    rw [eT] at hd
    show zI S2 (12, 0, i / 8) (i % 8) = mSh M1 t g bi N v7 14 i
    rw [o 14 (by omega), z (by unfold shC; simp only [Prod.mk.injEq]; omega)]
    exact hT.2.1 14 i hd
  | 15, hd =>
    have hd : i / 8 < nT (mSh M1 t g bi N v7) ∧ i % 8 < nB (mSh M1 t g bi N v7) (i / 8) := hd
    rw [eT, eB] at hd
    show zI S2 (2, i / 8, i % 8) 5 = mSh M1 t g bi N v7 15 i
    rw [sh_15]
    by_cases e : i / 8 = t
    · have e2 := (m3.2.2.2.2 (i % 8) (by rw [hn, ← e]; exact hd.2)).2.2.2.2.2.1
      rw [he.2.1 _ _ (fun q => absurd (congrArg Prod.fst q.1) (by decide : ¬ (2 : Nat) = 8)) (fun q => absurd (congrArg Prod.fst q.1) (by decide : ¬ (2 : Nat) = 3)), e, e2]
      congr 1
      omega
    · rw [z (by unfold shC; simp only [Prod.mk.injEq]; omega), m2.2.1 i (by have := nB8 hT.1 (t := t) (by have := nT6 hT.1; omega); omega), h2 15 (by omega) (by omega) (by omega)]
      exact hT.2.1 15 i hd
  | 16, hd =>
    have hd : i / 8 < nT (mSh M1 t g bi N v7) ∧ i % 8 < nB (mSh M1 t g bi N v7) (i / 8) := hd
    rw [eT, eB] at hd
    show zI S2 (2, i / 8, i % 8) 6 = mSh M1 t g bi N v7 16 i
    rw [o 16 (by omega), z (by unfold shC; simp only [Prod.mk.injEq]; omega)]
    exact hT.2.1 16 i hd
  | 17, hd =>
    have hd : i / 4 < nT (mSh M1 t g bi N v7) := hd
    rw [eT] at hd
    show vMd S2 (13, 0, i / 4) (i % 4) 0 (-1) = mSh M1 t g bi N v7 17 i
    rw [o 17 (by omega), vMd_eq (zq _ (kne (show (13 : Nat) ≠ 1 by decide))) (fun n _ => i4 n)]
    exact hT.2.1 17 i hd
  | 18, hd =>
    have hd : i / 4 < nT (mSh M1 t g bi N v7) ∧ mSh M1 t g bi N v7 17 i ≠ -1 := hd
    rw [eT, o 17 (by omega)] at hd
    show vMd S2 (13, 0, i / 4) (i % 4) 1 0 = mSh M1 t g bi N v7 18 i
    rw [o 18 (by omega), vMd_eq (zq _ (kne (show (13 : Nat) ≠ 1 by decide))) (fun n _ => i4 n)]
    exact hT.2.1 18 i hd
  | 19, hd =>
    have hd : i / 4 < nT (mSh M1 t g bi N v7) ∧ mSh M1 t g bi N v7 17 i ≠ -1 := hd
    rw [eT, o 17 (by omega)] at hd
    show vMd S2 (13, 0, i / 4) (i % 4) 2 0 = mSh M1 t g bi N v7 19 i
    rw [o 19 (by omega), vMd_eq (zq _ (kne (show (13 : Nat) ≠ 1 by decide))) (fun n _ => i4 n)]
    exact hT.2.1 19 i hd
  | 20, hd =>
    have hd : i / 4 < nT (mSh M1 t g bi N v7) ∧ mSh M1 t g bi N v7 17 i ≠ -1 := hd
    rw [eT, o 17 (by omega)] at hd
    show vMd S2 (13, 0, i / 4) (i % 4) 3 0 = mSh M1 t g bi N v7 20 i
    rw [o 20 (by omega), vMd_eq (zq _ (kne (show (13 : Nat) ≠ 1 by decide))) (fun n _ => i4 n)]
    exact hT.2.1 20 i hd
  | 21, hd =>
    have hd : i / 4 < nT (mSh M1 t g bi N v7) ∧ mSh M1 t g bi N v7 17 i ≠ -1 := hd
    rw [eT, o 17 (by omega)] at hd
    show vMd S2 (13, 0, i / 4) (i % 4) 4 0 = mSh M1 t g bi N v7 21 i
    rw [o 21 (by omega), vMd_eq (zq _ (kne (show (13 : Nat) ≠ 1 by decide))) (fun n _ => i4 n)]
    exact hT.2.1 21 i hd
  | 22, hd =>
    have hd : i = 0 := hd
    show zI S2 (10, 0, 0) 8 = mSh M1 t g bi N v7 22 i
    rw [o 22 (by omega), z (by unfold shC; simp only [Prod.mk.injEq]; omega)]
    exact hT.2.1 22 i hd
  | 23, hd =>
    have hd : i < 60 := hd
    show zI S2 (21, 0, 0) i = mSh M1 t g bi N v7 23 i
    rw [o 23 (by omega), z (by unfold shC; simp only [Prod.mk.injEq]; omega)]
    exact hT.2.1 23 i hd
  | 24, hd =>
    have hd : i = 0 := hd
    show zI S2 (0, 1, 0) 2 = mSh M1 t g bi N v7 24 i
    rw [o 24 (by omega), z (by unfold shC; simp only [Prod.mk.injEq]; omega)]
    exact hT.2.1 24 i hd
  | 25, hd =>
    have hd : i < nG (mSh M1 t g bi N v7) := hd
    rw [eG] at hd
    show zI S2 (3, i, 0) 0 = mSh M1 t g bi N v7 25 i
    rw [o 25 (by omega), z (by unfold shC; simp only [Prod.mk.injEq]; omega)]
    exact hT.2.1 25 i hd
  | 26, hd =>
    have hd : i < nG (mSh M1 t g bi N v7) := hd
    rw [eG] at hd
    show 3 - zI S2 (3, i, 0) 5 = mSh M1 t g bi N v7 26 i
    rw [sh_26 hh]
    by_cases e : i = g
    · rw [if_pos e, e, he.2.2.1, c3I, pk_sub (by omega)]
      congr 1
      omega
    · rw [if_neg e, z (by unfold shC; simp only [Prod.mk.injEq]; omega)]; exact hT.2.1 26 i hd
  | 27, hd =>
    have hd : i < nG (mSh M1 t g bi N v7) := hd
    rw [eG] at hd
    show zI S2 (6, 0, i) 3 = mSh M1 t g bi N v7 27 i
    rw [(sh_27 hh i).1]
    by_cases e : i = g
    · rw [if_pos e, zp _ _ (Or.inl rfl), e]; exact ps3
    · rw [if_neg e, z (by unfold shC; simp only [Prod.mk.injEq]; omega)]; exact hT.2.1 27 i hd
  | 28, hd =>
    have hd : i / 8 < nG (mSh M1 t g bi N v7) := hd
    rw [eG] at hd
    show zI S2 (12, 1, i / 8) (i % 8) = mSh M1 t g bi N v7 28 i
    rw [o 28 (by omega), z (by unfold shC; simp only [Prod.mk.injEq]; omega)]
    exact hT.2.1 28 i hd
  | 29, hd =>
    have hd : i / 4 < nG (mSh M1 t g bi N v7) := hd
    rw [eG] at hd
    show vMd S2 (13, 1, i / 4) (i % 4) 0 (-1) = mSh M1 t g bi N v7 29 i
    rw [o 29 (by omega), vMd_eq (zq _ (kne (show (13 : Nat) ≠ 1 by decide))) (fun n _ => i4 n)]
    exact hT.2.1 29 i hd
  | 30, hd =>
    have hd : i / 4 < nG (mSh M1 t g bi N v7) ∧ mSh M1 t g bi N v7 29 i ≠ -1 := hd
    rw [eG, o 29 (by omega)] at hd
    show vMd S2 (13, 1, i / 4) (i % 4) 1 0 = mSh M1 t g bi N v7 30 i
    rw [o 30 (by omega), vMd_eq (zq _ (kne (show (13 : Nat) ≠ 1 by decide))) (fun n _ => i4 n)]
    exact hT.2.1 30 i hd
  | 31, hd =>
    have hd : i / 4 < nG (mSh M1 t g bi N v7) ∧ mSh M1 t g bi N v7 29 i ≠ -1 := hd
    rw [eG, o 29 (by omega)] at hd
    show vMd S2 (13, 1, i / 4) (i % 4) 2 0 = mSh M1 t g bi N v7 31 i
    rw [o 31 (by omega), vMd_eq (zq _ (kne (show (13 : Nat) ≠ 1 by decide))) (fun n _ => i4 n)]
    exact hT.2.1 31 i hd
  | 32, hd =>
    have hd : i / 4 < nG (mSh M1 t g bi N v7) ∧ mSh M1 t g bi N v7 29 i ≠ -1 := hd
    rw [eG, o 29 (by omega)] at hd
    show vMd S2 (13, 1, i / 4) (i % 4) 3 0 = mSh M1 t g bi N v7 32 i
    rw [o 32 (by omega), vMd_eq (zq _ (kne (show (13 : Nat) ≠ 1 by decide))) (fun n _ => i4 n)]
    exact hT.2.1 32 i hd
  | 33, hd =>
    have hd : i / 4 < nG (mSh M1 t g bi N v7) ∧ mSh M1 t g bi N v7 29 i ≠ -1 := hd
    rw [eG, o 29 (by omega)] at hd
    show vMd S2 (13, 1, i / 4) (i % 4) 4 0 = mSh M1 t g bi N v7 33 i
    rw [o 33 (by omega), vMd_eq (zq _ (kne (show (13 : Nat) ≠ 1 by decide))) (fun n _ => i4 n)]
    exact hT.2.1 33 i hd
  | 34, hd =>
    have hd : i < nG (mSh M1 t g bi N v7) := hd
    rw [eG] at hd
    show zI S2 (6, 0, i) 2 = mSh M1 t g bi N v7 34 i
    rw [(sh_27 hh i).2]
    by_cases e : i = g
    · rw [if_pos e, zp _ _ (Or.inl rfl), e]; exact ps2.trans p42.symm
    · rw [if_neg e, z (by unfold shC; simp only [Prod.mk.injEq]; omega)]; exact hT.2.1 34 i hd
  | 35, hd =>
    have hd : i / 3 < nG (mSh M1 t g bi N v7) ∧ i % 3 < nD (mSh M1 t g bi N v7) (i / 3) := hd
    rw [eG] at hd
    show zI S2 (14, 0, i / 3) (i % 3) = mSh M1 t g bi N v7 35 i
    rw [(sh_35 hh i).1]
    by_cases e : i / 3 = g
    · rw [e, eDg] at hd
      obtain ⟨j, hj, j1, j2, j3, j4⟩ := ps (i % 3) hd.2
      rw [if_pos (by omega), zp _ _ (Or.inr (Or.inl rfl)), e, show i - 3 * g = i % 3 by omega]
      exact j2.trans j1.symm
    · rw [eD _ e] at hd
      rw [if_neg (by omega), z (by unfold shC; simp only [Prod.mk.injEq]; omega)]; exact hT.2.1 35 i hd
  | 36, hd =>
    have hd : i / 3 < nG (mSh M1 t g bi N v7) ∧ i % 3 < nD (mSh M1 t g bi N v7) (i / 3) := hd
    rw [eG] at hd
    show zI S2 (15, 0, i / 3) (i % 3) = mSh M1 t g bi N v7 36 i
    rw [(sh_35 hh i).2]
    by_cases e : i / 3 = g
    · rw [e, eDg] at hd
      obtain ⟨j, hj, j1, j2, j3, j4⟩ := ps (i % 3) hd.2
      rw [if_pos (by omega), zp _ _ (Or.inr (Or.inr rfl)), e, show i - 3 * g = i % 3 by omega]
      exact j4
    · rw [eD _ e] at hd
      rw [if_neg (by omega), z (by unfold shC; simp only [Prod.mk.injEq]; omega)]; exact hT.2.1 36 i hd
  | 37, hd => exact hd.elim
  | 38, hd => exact hd.elim
  | 39, hd => exact hd.elim
  | 40, hd => exact hd.elim
  | 41, hd => exact hd.elim
  | 42, hd => exact hd.elim
  | 43, hd => exact hd.elim
  | 44, hd => exact hd.elim
  | 45, hd => exact hd.elim
  | 46, hd => exact hd.elim
  | 47, hd => exact hd.elim
  | 48, hd => exact hd.elim
  | 49, hd =>
    have hd : i < 2 := hd
    show zI S2 (9, i, 0) 1 = mSh M1 t g bi N v7 49 i
    rw [o 49 (by omega), z (by unfold shC; simp only [Prod.mk.injEq]; omega)]
    exact hT.2.1 49 i hd
  | 50, hd =>
    have hd : i < 4 := hd
    show zI S2 (20, i / 2, 0) (i % 2) = mSh M1 t g bi N v7 50 i
    rw [o 50 (by omega), z (by unfold shC; simp only [Prod.mk.injEq]; omega)]
    exact hT.2.1 50 i hd
  | n + 51, hd => exact hd.elim
theorem sh_tie (h : ShH S M t g n bi Sb Mb S1 M1 N) (he : ShE S1 S2 t g bi v7) (hv : (bi = 2 ∧ v7 = -1) ∨ (bi < 2 ∧ v7 = nI g)) (hSV : ∀ c, zV Sb c = if c = (1, 0, 0) then true else zV S c) : Tie S2 (mSh M1 t g bi N v7) := by
  obtain ⟨eT, eB, eG, eS, eD, eL⟩ := sh_n (v7 := v7) h
  refine ⟨sh_wm h hv, sh_ag h he hv, ?_, ?_⟩
  · have hh := h
    have z : ∀ {c : zId} {k : Nat}, ¬ shC t g c k → zI S2 c k = zI S c k := fun hc => sh_z hh he hc
    obtain ⟨⟨hT, ht, hg, h25, hL, hbi, hn⟩, h1, h2, h3, h4, h5, h6, N1, N2⟩ := h
    obtain ⟨m1, m2, m3, ⟨d, m4⟩, m5, -, -⟩ := h5
    have b10 : zV S (1, 0, 0) = false := hT.2.2.1.2.1
    have V : ∀ c, zV S2 c = zV S c := fun c => by
      rw [he.2.2.2.2.2.2, m1.2.2.2.2.2.2, hSV]
      by_cases e : c = (1, 0, 0)
      · rw [if_pos e, e, b10]
      · rw [if_neg e, if_neg e]
    have zn : ∀ c, c ≠ (1, 0, 0) → zN S2 c = zN S c := fun c hc => (he.2.2.2.2.2.1 c).trans ((m1.2.2.2.2.2.1 c).trans (h1 c hc).2.2.2.1)
    have zq : ∀ c, c ≠ (1, 0, 0) → zQ S2 c = zQ S c := fun c hc => (he.2.2.2.2.1 c).trans ((m1.2.2.2.2.1 c).trans (h1 c hc).2.2.1)
    have ls : ∀ i n, zLs S i n → zLs S2 i n := by
      intro i n hl
      unfold zLs at hl ⊢
      rw [z (by unfold shC; simp only [Prod.mk.injEq]; omega), zn _ (kne (show (0 : Nat) ≠ 1 by decide)), zn _ (kne (show (23 : Nat) ≠ 1 by decide))]
      exact ⟨hl.1, fun g hg => by rw [V]; exact hl.2.1 g hg, hl.2.2⟩
    obtain ⟨n1, n2, n3, n4, n5, n6, n7, n8, n9, n10, n11⟩ := hT.2.2.1
    refine ⟨by rw [V]; exact n1, by rw [V]; exact n2, by rw [eT]; exact ls _ _ n3, by rw [eG]; exact ls _ _ n4, fun u hu => by rw [eT] at hu; rw [eB]; exact ls _ _ (n5 u hu), fun u hu => ?_, fun u k hu hk => by rw [eB] at hk; rw [V]; exact n7 u k hu hk, fun u hu => ?_, fun n hn => ?_, fun u k n hu hq => ?_, fun u k n hu hq => ?_⟩
    · rw [eT] at hu
      obtain ⟨q8, q0, q7, q12, q13, q23⟩ := n6 u hu
      exact ⟨by rw [V]; exact q8, by rw [V]; exact q0, by rw [V]; exact q7, by rw [V]; exact q12, by rw [V]; exact q13, fun g => by rw [V]; exact q23 g⟩
    · rw [eG] at hu
      obtain ⟨q3, q7, q12, q13, q6, q14, q15, q16⟩ := n8 u hu
      exact ⟨by rw [V]; exact q3, by rw [V]; exact q7, by rw [V]; exact q12, by rw [V]; exact q13, by rw [V]; exact q6, by rw [V]; exact q14, by rw [V]; exact q15, by rw [V]; exact q16⟩
    · rw [zn _ (kne (show (10 : Nat) ≠ 1 by decide))] at hn
      rw [V]; exact n9 n hn
    · rw [eT] at hu
      rw [zn _ (kne (show (10 : Nat) ≠ 1 by decide))]
      rw [zq _ (kne (show (13 : Nat) ≠ 1 by decide))] at hq
      exact n10 u k n hu hq
    · rw [eG] at hu
      rw [zn _ (kne (show (10 : Nat) ≠ 1 by decide))]
      rw [zq _ (kne (show (13 : Nat) ≠ 1 by decide))] at hq
      exact n11 u k n hu hq
  · intro u hu
    have hh := h
    have z : ∀ {c : zId} {k : Nat}, ¬ shC t g c k → zI S2 c k = zI S c k := fun hc => sh_z hh he hc
    obtain ⟨⟨hT, ht, hg, h25, hL, hbi, hn⟩, h1, h2, h3, h4, h5, h6, N1, N2⟩ := h
    obtain ⟨m1, m2, m3, ⟨d, m4⟩, m5, ⟨l1, l2⟩, -⟩ := h5
    rw [eG] at hu
    by_cases e : u = g
    · have hEn : ents (mSh M1 t g bi N v7) u = ents M g ++ rlE M1 (3 * g + bi) bi N := by
        unfold ents
        rw [eL, if_pos e, e, hL, show 3 - (2 - bi) = bi + 1 by omega, show 3 - (3 - bi) = bi by omega, List.range_succ, List.flatMap_append, List.flatMap_singleton]
        congr 1
        · refine fm_c (fun b hb => ?_)
          obtain ⟨x1, x2, x3⟩ := sh_b (v7 := v7) hh (ball := 3 * g + b) (by omega)
          exact entB_p (stp_ok hT.1 hg (by omega)).2.2.1 x3 x1 x2
        · unfold entB rlE
          rw [sh_37 hh, if_pos rfl, nI_clamp (by omega)]
          exact fm_c (fun q hq => entS_c (by rw [sh_38]) (by rw [sh_39]))
      rw [hEn, e]
      refine ⟨?_, fun k n hk => ?_⟩
      · rw [he.2.1 _ _ (fun q => absurd (congrArg Prod.fst q.1) (by decide : ¬ (3 : Nat) = 8)) (fun q => absurd q.2 (by decide))]
        exact l1
      · rw [he.2.2.2.1]
        exact l2 k n hk
    · have hEn : ents (mSh M1 t g bi N v7) u = ents M u := by
        unfold ents
        rw [eL, if_neg e]
        refine fm_c (fun b hb => ?_)
        obtain ⟨x1, x2, x3⟩ := sh_b (v7 := v7) hh (ball := 3 * u + b) (by omega)
        exact entB_p (stp_ok hT.1 hu hb).2.2.1 x3 x1 x2
      rw [hEn]
      obtain ⟨k1, k2⟩ := hT.2.2.2 u hu
      refine ⟨?_, fun k n hk => ?_⟩
      · rw [z (by unfold shC; simp only [Prod.mk.injEq]; omega)]; exact k1
      · rw [he.2.2.2.1, m1.2.2.2.1 _ (fun q => e (congrArg (fun z : zId => z.2.1) q)), (h1 _ (kne (show (16 : Nat) ≠ 1 by decide))).2.1]
        exact k2 k n hk
end PSH
