/-! frames for calls that make objects -/
section PY
variable {S S1 S2 : zSt} {M M1 : zMs} {P Q : zId → Prop}
theorem vS_eq2 (k i : Nat) (hc : zI S1 (rC k i) = zI S (rC k i)) (hq : (rC k i).1 = 13 → zQ S1 (rC k i) = zQ S (rC k i)) (h4 : ∀ j n, zQ S (rC k i) j = some n → (rC k i).1 = 13 → zI S1 (4, n, 0) = zI S (4, n, 0)) : vS S1 k i = vS S k i := by
  match k with
  | 0 => rfl
  | 1 => exact congrFun hc _
  | 2 => exact congrFun hc _
  | 3 => exact congrFun hc _
  | 4 => exact congrFun hc _
  | 5 => exact congrFun hc _
  | 6 => exact congrFun hc _
  | 7 => exact congrFun hc _
  | 8 => exact congrFun hc _
  | 9 => exact congrFun hc _
  | 10 => exact congrFun hc _
  | 11 => exact congrFun hc _
  | 12 => exact congrFun hc _
  | 13 => exact congrFun hc _
  | 14 => exact congrFun hc _
  | 15 => exact congrFun hc _
  | 16 => exact congrFun hc _
  | 17 => exact vMd_eq (c := (13, 0, i / 4)) (hq rfl) (fun n hn => h4 (i % 4) n hn rfl)
  | 18 => exact vMd_eq (c := (13, 0, i / 4)) (hq rfl) (fun n hn => h4 (i % 4) n hn rfl)
  | 19 => exact vMd_eq (c := (13, 0, i / 4)) (hq rfl) (fun n hn => h4 (i % 4) n hn rfl)
  | 20 => exact vMd_eq (c := (13, 0, i / 4)) (hq rfl) (fun n hn => h4 (i % 4) n hn rfl)
  | 21 => exact vMd_eq (c := (13, 0, i / 4)) (hq rfl) (fun n hn => h4 (i % 4) n hn rfl)
  | 22 => exact congrFun hc _
  | 23 => exact congrFun hc _
  | 24 => exact congrFun hc _
  | 25 => exact congrFun hc _
  | 26 => exact congrArg (fun f : Nat → Int32 => 3 - f 5) hc
  | 27 => exact congrFun hc _
  | 28 => exact congrFun hc _
  | 29 => exact vMd_eq (c := (13, 1, i / 4)) (hq rfl) (fun n hn => h4 (i % 4) n hn rfl)
  | 30 => exact vMd_eq (c := (13, 1, i / 4)) (hq rfl) (fun n hn => h4 (i % 4) n hn rfl)
  | 31 => exact vMd_eq (c := (13, 1, i / 4)) (hq rfl) (fun n hn => h4 (i % 4) n hn rfl)
  | 32 => exact vMd_eq (c := (13, 1, i / 4)) (hq rfl) (fun n hn => h4 (i % 4) n hn rfl)
  | 33 => exact vMd_eq (c := (13, 1, i / 4)) (hq rfl) (fun n hn => h4 (i % 4) n hn rfl)
  | 34 => exact congrFun hc _
  | 35 => exact congrFun hc _
  | 36 => exact congrFun hc _
  | 37 => rfl
  | 38 => rfl
  | 39 => rfl
  | 40 => rfl
  | 41 => rfl
  | 42 => rfl
  | 43 => rfl
  | 44 => rfl
  | 45 => rfl
  | 46 => rfl
  | 47 => rfl
  | 48 => rfl
  | 49 => exact congrFun hc _
  | 50 => exact congrFun hc _
  | n + 51 => rfl
theorem rC_23 (k i : Nat) : (rC k i).1 ≠ 23 := by
  match k with
  | 0 => simp [rC]
  | 1 => simp [rC]
  | 2 => simp [rC]
  | 3 => simp [rC]
  | 4 => simp [rC]
  | 5 => simp [rC]
  | 6 => simp [rC]
  | 7 => simp [rC]
  | 8 => simp [rC]
  | 9 => simp [rC]
  | 10 => simp [rC]
  | 11 => simp [rC]
  | 12 => simp [rC]
  | 13 => simp [rC]
  | 14 => simp [rC]
  | 15 => simp [rC]
  | 16 => simp [rC]
  | 17 => simp [rC]
  | 18 => simp [rC]
  | 19 => simp [rC]
  | 20 => simp [rC]
  | 21 => simp [rC]
  | 22 => simp [rC]
  | 23 => simp [rC]
  | 24 => simp [rC]
  | 25 => simp [rC]
  | 26 => simp [rC]
  | 27 => simp [rC]
  | 28 => simp [rC]
  | 29 => simp [rC]
  | 30 => simp [rC]
  | 31 => simp [rC]
  | 32 => simp [rC]
  | 33 => simp [rC]
  | 34 => simp [rC]
  | 35 => simp [rC]
  | 36 => simp [rC]
  | 37 => simp [rC]
  | 38 => simp [rC]
  | 39 => simp [rC]
  | 40 => simp [rC]
  | 41 => simp [rC]
  | 42 => simp [rC]
  | 43 => simp [rC]
  | 44 => simp [rC]
  | 45 => simp [rC]
  | 46 => simp [rC]
  | 47 => simp [rC]
  | 48 => simp [rC]
  | 49 => simp [rC]
  | 50 => simp [rC]
  | n + 51 => simp [rC]
def fY (S S1 : zSt) (P : zId → Prop) : Prop := ∀ c, ¬ P c → (c.1 ≠ 23 → zI S1 c = zI S c) ∧ zN S1 c = zN S c ∧ zV S1 c = zV S c ∧ (c.1 = 16 → zL S1 c = zL S c) ∧ (c.1 = 13 → zQ S1 c = zQ S c)
theorem fY_r (S : zSt) : fY S S P := fun _ _ => ⟨fun _ => rfl, rfl, rfl, fun _ => rfl, fun _ => rfl⟩
theorem fY_X (h : eqX S S1 P) : fY S S1 P := fun c hc => by
  obtain ⟨a1, a2, a3, a4, a5⟩ := h c hc
  exact ⟨fun _ => a1, a4, a5, fun _ => a2, fun _ => a3⟩
theorem fY_B {i : Nat} (h : eqB S S1 i) : fY S S1 (fun c => (c.1 = 0 ∨ c.1 = 23) ∧ c.2.1 = i) := by
  intro c hc
  obtain ⟨b1, b2, b3, b4⟩ := h
  obtain ⟨k, a, b⟩ := c
  by_cases h0 : k = 0
  · subst h0
    have ha : a ≠ i := fun e => hc ⟨Or.inl rfl, e⟩
    exact ⟨fun _ => (b2 a b ha).1, (b2 a b ha).2, b3 a b, fun e => absurd e (by decide : ¬ (0 : Nat) = 16), fun e => absurd e (by decide : ¬ (0 : Nat) = 13)⟩
  · by_cases h23 : k = 23
    · subst h23
      have ha : a ≠ i := fun e => hc ⟨Or.inr rfl, e⟩
      exact ⟨fun e => absurd rfl e, (b4 a b ha).1, (b4 a b ha).2, fun e => absurd e (by decide : ¬ (23 : Nat) = 16), fun e => absurd e (by decide : ¬ (23 : Nat) = 13)⟩
    · obtain ⟨p1, p2, p3, p4, p5⟩ := b1 (k, a, b) h0 h23
      exact ⟨fun _ => p1, p4, p5, fun _ => p2, fun _ => p3⟩
theorem fY_t (h : fY S S1 P) (h1 : fY S1 S2 Q) : fY S S2 (fun c => P c ∨ Q c) := fun c hc => by
  obtain ⟨a1, a2, a3, a4, a5⟩ := h c (fun q => hc (Or.inl q))
  obtain ⟨b1, b2, b3, b4, b5⟩ := h1 c (fun q => hc (Or.inr q))
  exact ⟨fun e => (b1 e).trans (a1 e), b2.trans a2, b3.trans a3, fun e => (b4 e).trans (a4 e), fun e => (b5 e).trans (a5 e)⟩
theorem fY_m (h : fY S S1 P) (hi : ∀ c, P c → Q c) : fY S S1 Q := fun c hc => h c (fun q => hc (hi c q))
theorem fY_p (S : zSt) (d : zId) (k : Nat) (v : Int32) : fY S (pI S d k v) (fun c => c = d) := fun c hc => ⟨fun _ => zI_pIn S hc k v, rfl, rfl, fun _ => rfl, fun _ => rfl⟩
theorem fY_ls (h : fY S S1 P) {i n : Nat} (h0 : ¬ P (0, i, 0)) (h23 : ∀ g, ¬ P (23, i, g)) (hl : zLs S i n) : zLs S1 i n := by
  obtain ⟨a1, a2, -⟩ := h _ h0
  have a1 := a1 (by decide : (0 : Nat) ≠ 23)
  unfold zLs at hl ⊢
  rw [a1, a2, (h _ (h23 _)).2.1]
  exact ⟨hl.1, fun g hg => by rw [(h _ (h23 g)).2.2.1]; exact hl.2.1 g hg, hl.2.2⟩
theorem vS_fY (h : fY S S1 P) {k i : Nat} (hn : ¬ P (rC k i)) (h4 : ∀ j n, zQ S (rC k i) j = some n → (rC k i).1 = 13 → ¬ P (4, n, 0)) : vS S1 k i = vS S k i :=
  vS_eq2 k i ((h _ hn).1 (rC_23 k i)) (h _ hn).2.2.2.2 (fun j n e e13 => (h _ (h4 j n e e13)).1 (by decide : (4 : Nat) ≠ 23))
theorem ents_eq2 {g : Nat} (hL : nL M1 g = nL M g) (q37 : M1 37 = M 37) (q38 : M1 38 = M 38) (q39 : M1 39 = M 39) : ents M1 g = ents M g := by
  unfold ents entB entS pt
  simp only [hL, q37, q38, q39]
theorem lg_fY (h : LG S M) (hs : fY S S1 P) {g : Nat} (hg : g < nG M) (h3 : ¬ P (3, g, 0)) (h16 : ¬ P (16, g, 0)) (he : ents M1 g = ents M g) : zI S1 (3, g, 0) 4 = nI (ents M1 g).length ∧ ∀ k n, (ents M1 g)[k]? = some n → zL S1 (16, g, 0) k = Int64.ofNat n := by
  obtain ⟨l1, l2⟩ := h g hg
  rw [he]
  refine ⟨?_, fun k n hk => ?_⟩
  · rw [(hs _ h3).1 (by decide : (3 : Nat) ≠ 23)]; exact l1
  · rw [(hs _ h16).2.2.2.1 rfl]; exact l2 k n hk
/-- a game's rows, where there are more tables -/
theorem gm_mono {g : Nat} (h : gmOk M g) (hT : nT M ≤ nT M1) (q25 : M1 25 g = M 25 g) (q26 : M1 26 g = M 26 g) (q34 : M1 34 g = M 34 g) (q35 : ∀ k, k < nD M g → M1 35 (3 * g + k) = M 35 (3 * g + k)) (q28 : ∀ k, k < 8 → M1 28 (8 * g + k) = M 28 (8 * g + k)) (q29 : ∀ k, k < 4 → M1 29 (4 * g + k) = M 29 (4 * g + k) ∧ M1 30 (4 * g + k) = M 30 (4 * g + k) ∧ M1 31 (4 * g + k) = M 31 (4 * g + k) ∧ M1 32 (4 * g + k) = M 32 (4 * g + k) ∧ M1 33 (4 * g + k) = M 33 (4 * g + k)) (q37 : M1 37 = M 37) (q38 : M1 38 = M 38) (q39 : M1 39 = M 39) : gmOk M1 g := by
  obtain ⟨⟨t, g1, g1b⟩, g2, g3, g4, g5, g6, g7⟩ := h
  have eL : nL M1 g = nL M g := by unfold nL; rw [q26]
  have eD : nD M1 g = nD M g := by unfold nD; rw [q34]
  refine ⟨⟨t, by omega, by rw [q25]; exact g1b⟩, by rw [q26]; exact g2, by rw [q34]; exact g3, fun k hk => ?_, fun k hk => ?_, fun j hj => ?_, fun b hb => ?_⟩
  · rw [eD] at hk
    obtain ⟨j, hj, a1, a2⟩ := g4 k hk
    exact ⟨j, hj, by rw [q35 k hk]; exact a1, by rw [(q29 j hj).1]; exact a2⟩
  · rw [q28 k hk]; exact g5 k hk
  · obtain ⟨e1, e2, e3, e4, e5⟩ := q29 j hj
    rw [e1, e2, e3, e4, e5]
    exact g6 j hj
  · rw [eL] at hb
    rw [q37, q38, q39]
    exact g7 b hb
end PY
