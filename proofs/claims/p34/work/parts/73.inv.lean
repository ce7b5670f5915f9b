/-! what holds of the rows behind every call -/
section PIV
variable {S S1 S2 Sb : zSt} {M M1 Mb : zMs} {t g n bi N k v b : Nat}
def plG (M : zMs) (g : Nat) : plT := (M 27 g, nD M g, nrm (nD M g) (fun i => M 35 (3 * g + i)), nrm (nD M g) (fun i => M 36 (3 * g + i)))
/-- scores are those of the logs -/
def J1 (M : zMs) : Prop := ∀ g, g < nG M → plG M g = plS M g (ents M g) pl0
def J2 (M : zMs) : Prop := ∀ g b k, g < nG M → b < 3 - nL M g → k < 8 → rng 0 (nS M) (M 39 (8 * (3 * g + b) + k))
def J3 (M : zMs) : Prop := ∀ t, t < nT M → rng 1 9 (M 3 t) ∧ rng 0 (9 * nG M) (M 4 t)
def INV (M : zMs) : Prop := (∃ S, Tie S M) ∧ J1 M ∧ J2 M ∧ J3 M
theorem rulE_r (h : ∀ k, 28 ≤ k → k ≤ 33 → M1 k = M k) (g : Nat) : rulE M M1 g := ⟨fun k _ => congrFun (h 28 (by omega) (by omega)) _, fun r a b j _ => congrFun (h r (by omega) b) _⟩
theorem plS_e (hW : WM M) (hg : g < nG M) (h : rulE M M1 g) (s : plT) : plS M1 g (ents M g) s = plS M g (ents M g) s := plS_g h _ s (fun e he => (ents_mem hW hg he).2.1)
theorem J1_fr (hW : WM M) (h : ∀ k, 24 ≤ k → k ≤ 39 → M1 k = M k) (hJ : J1 M) : J1 M1 := by
  intro g hg
  have eG : nG M1 = nG M := by unfold nG; rw [h 24 (by omega) (by omega)]
  rw [eG] at hg
  have e1 : plG M1 g = plG M g := by
    unfold plG nD
    rw [h 27 (by omega) (by omega), h 34 (by omega) (by omega), h 35 (by omega) (by omega), h 36 (by omega) (by omega)]
  rw [e1, ents_eq (h 26 (by omega) (by omega)) (h 37 (by omega) (by omega)) (h 38 (by omega) (by omega)) (h 39 (by omega) (by omega)) g, plS_e hW hg (rulE_r (fun k a b => h k (by omega) (by omega)) g)]
  exact hJ g hg
theorem J2_fr (h : ∀ k, 24 ≤ k → k ≤ 39 → M1 k = M k) (hS : nS M ≤ nS M1) (hJ : J2 M) : J2 M1 := by
  intro g b k hg hb hk
  have eG : nG M1 = nG M := by unfold nG; rw [h 24 (by omega) (by omega)]
  have eL : nL M1 g = nL M g := by unfold nL; rw [h 26 (by omega) (by omega)]
  rw [eG] at hg
  rw [eL] at hb
  rw [h 39 (by omega) (by omega)]
  obtain ⟨n, n1, n2, e⟩ := hJ g b k hg hb hk
  exact ⟨n, n1, by omega, e⟩
theorem J3_fr (hT : nT M1 = nT M) (h3 : M1 3 = M 3) (h4 : M1 4 = M 4) (hG : nG M ≤ nG M1) (hJ : J3 M) : J3 M1 := by
  intro t ht
  rw [hT] at ht
  obtain ⟨a, n, n1, n2, e⟩ := hJ t ht
  exact ⟨by rw [h3]; exact a, n, n1, by omega, by rw [h4]; exact e⟩
theorem tie_nx {nums : List Nat} {α : Type} {fv : α → Int64} {fs : α → zSt} {r : Option ((Nat × zSt) ⊕ α)} {gv : Int32 → Int64} {r1 : Option (Int32 × zMs)} (hT : Tie S M) (h : zOk Tie nums fv fs r gv r1) : ∃ S', Tie S' (nx M r1) := by
  rcases h with ⟨y, b, M1, -, e, h0, -, hT1⟩ | ⟨ee, b, M1, -, e, -, -, hT1⟩
  · subst e
    rw [nx_k h0]
    exact ⟨_, hT1⟩
  · subst e
    by_cases h0 : M1 0 0 = 0
    · rw [nx_k h0]; exact ⟨_, hT1⟩
    · rw [nx_w h0]; exact ⟨_, hT⟩
theorem nc1 : (-2000000001 : Int32) < 0 := by decide
theorem nc2 : (-2000000002 : Int32) < 0 := by decide
theorem nc3 : (-2000000003 : Int32) < 0 := by decide
-- a call that changes the rows: refused, or as told
theorem cs_tables (h : WM M) (i j : Int32) : (A_tables M i j < 0 ∧ N_tables M i j = M) ∨ (nT M < 6 ∧ inR i 0 100 ∧ inR j 1 9 ∧ A_tables M i j = nI (nT M) ∧ N_tables M i j = pM (pM (pM (pM (pM M 0 0 0) 2 (nT M) i) 3 (nT M) j) 7 (nT M) (-1)) 1 0 (nI (nT M + 1))) := by
  by_cases r : inR i 0 100 ∧ inR j 1 9
  · by_cases e6 : nT M = 6
    · obtain ⟨a, b⟩ := rf_tables2 h r.1 r.2 e6
      exact Or.inl ⟨by rw [a]; exact nc3, b⟩
    · have h6 := nT6 h
      obtain ⟨a, b⟩ := an_e (nums := [2, 3]) (sp_addTable h r.1 r.2 (by omega)) (by simp (disch := omega) only [pMn, pM_s])
      exact Or.inr ⟨by omega, r.1, r.2, a, b⟩
  · obtain ⟨a, b⟩ := rf_tables1 (M := M) r
    exact Or.inl ⟨by rw [a]; exact nc2, b⟩
theorem cs_bumpers (h : WM M) (i a2 a3 a4 a5 : Int32) : (A_bumpers M i a2 a3 a4 a5 < 0 ∧ N_bumpers M i a2 a3 a4 a5 = M) ∨ ∃ t, t < nT M ∧ i = nI t ∧ M 7 t = -1 ∧ nB M t < 8 ∧ A_bumpers M i a2 a3 a4 a5 = nI (nB M t) ∧ N_bumpers M i a2 a3 a4 a5 = mBm M t (nB M t) a2 a3 (a4 / 100) (a4 - a4 / 100 * 100) a5 := by
  rcases tab_3 h i with hi | ⟨t, ht, rfl⟩
  · obtain ⟨a, b⟩ := rf_bumpers1 (a2 := a2) (a3 := a3) (a4 := a4) (a5 := a5) h hi
    exact Or.inl ⟨by rw [a]; exact nc1, b⟩
  · by_cases ha : arBm a2 a3 a4 a5
    · by_cases hf : ¬ M 7 t = -1 ∨ nB M t = 8
      · obtain ⟨a, b⟩ := rf_bumpers3 h ht ha hf
        exact Or.inl ⟨by rw [a]; exact nc3, b⟩
      · have h6 := nT6 h
        have h8 := nB8 h (t := t) (by omega)
        have e7 : M 7 t = -1 := Decidable.byContradiction (fun q => hf (Or.inl q))
        have e8 : nB M t < 8 := by
          by_cases q : nB M t = 8
          · exact absurd (Or.inr q) hf
          · omega
        obtain ⟨a, b⟩ := an_e (nums := [1, 2, 3]) (sp_addBumper h ht ha e7 e8) mBm_00
        exact Or.inr ⟨t, ht, rfl, e7, e8, a, b⟩
    · obtain ⟨a, b⟩ := rf_bumpers2 h ht ha
      exact Or.inl ⟨by rw [a]; exact nc2, b⟩
theorem cs_points (h : WM M) (i j x : Int32) : (A_points M i j x < 0 ∧ N_points M i j x = M) ∨ ∃ u, N_points M i j x = pM (pM M 0 0 0) 14 u x := by
  rcases sw_3 h i j with ⟨t, b, ht, hb, rfl, rfl⟩ | hi
  · by_cases hr : inR x 0 1000
    · by_cases hf : M 7 t = -1
      · obtain ⟨a, c⟩ := an_e (nums := [1, 2, 3]) (sp_setPoints h ht hb hr hf) (by simp (disch := omega) only [pMn, pM_s])
        exact Or.inr ⟨_, c⟩
      · obtain ⟨a, c⟩ := rf_points3 h ht hb hr hf
        exact Or.inl ⟨by rw [a]; exact nc3, c⟩
    · have q := so_setPoints2 h ht hb hr
      exact Or.inl ⟨by rw [show A_points M (nI t) (nI b) x = (-2000000002) from (an_f q i2n).trans (by decide)]; exact nc2, nx_f q i2n⟩
  · obtain ⟨a, c⟩ := rf_points1 (x := x) hi
    exact Or.inl ⟨by rw [a]; exact nc1, c⟩
theorem cs_modes (h : WM M) (i j a3 a4 a5 : Int32) : N_modes M i j a3 a4 a5 = M ∨ ∃ t q x7 x8 x9 x0 x1, N_modes M i j a3 a4 a5 = mSm M t q x7 x8 x9 x0 x1 := by
  rcases tab_3 h i with hi | ⟨t, ht, rfl⟩
  · exact Or.inl (rf_modes1 h (Or.inl hi)).2
  · by_cases ha : arSm M t j a3
    · by_cases hf : fiSm a3 a4 a5
      · by_cases hfr : M 7 t = -1
        · obtain ⟨q, hq, hq4, e⟩ := inR_of ha.1 (show (0 : Int32) = nI 0 by decide) (show (3 : Int32) = nI 3 by decide) (by omega) (by omega)
          subst e
          obtain ⟨x7, x8, -, e⟩ := sp_setMode h ht (j := q) (by omega) ha hf hfr
          exact Or.inr ⟨t, q, x7, x8, _, _, _, (ab_e (nums := [1, 2, 3]) e mSm_00).2⟩
        · exact Or.inl (rf_modes3 h ht ha hf hfr).2
      · exact Or.inl (rf_modes2 h ht ha hf).2
    · exact Or.inl (rf_modes1 h (Or.inr ⟨t, ht, rfl, ha⟩)).2
theorem cs_stick (h : WM M) (i j : Int32) : (A_stick M i j < 0 ∧ N_stick M i j = M) ∨ ∃ t b, t < nT M ∧ b < nB M t ∧ nS M < 60 ∧ A_stick M i j = nI (nS M) ∧ N_stick M i j = pM (pM (pM M 0 0 0) 16 (8 * t + b) (nI (nS M))) 22 0 (nI (nS M + 1)) := by
  rcases sw_3 h i j with ⟨t, b, ht, hb, rfl, rfl⟩ | hi
  · by_cases hs : M 16 (8 * t + b) = -1
    · by_cases h60 : (60 : Int32) ≤ M 22 0
      · obtain ⟨a, c⟩ := rf_stick2 h ht hb (Or.inr h60)
        exact Or.inl ⟨by rw [a]; exact nc3, c⟩
      · have hS := nS60 h
        have e22 := nS_e h
        obtain ⟨a, c⟩ := an_e (nums := [1, 3]) (sp_stick h ht hb hs h60) (by simp (disch := omega) only [pMn, pM_s])
        rw [e22] at a c h60
        rw [nI_1] at c
        have h60 : nS M < 60 := Nat.lt_of_not_le (fun q => h60 (by rw [show (60 : Int32) = nI 60 by decide]; exact nI_le q (by omega)))
        exact Or.inr ⟨t, b, ht, hb, h60, a, c⟩
    · obtain ⟨a, c⟩ := rf_stick2 h ht hb (Or.inl hs)
      exact Or.inl ⟨by rw [a]; exact nc3, c⟩
  · obtain ⟨a, c⟩ := rf_stick1 hi
    exact Or.inl ⟨by rw [a]; exact nc1, c⟩
def mCn (M : zMs) (t : Nat) : zMs := pM (pM (pM (mCo (pM M 0 0 0) t (nG M)) 7 t (nI (nG M))) 4 t (M 4 t + M 3 t)) 5 t (M 5 t + M 3 t)
theorem cs_coin (h : WM M) (i : Int32) : N_coin M i = M ∨ ∃ t, t < nT M ∧ M 7 t = -1 ∧ nG M < 40 ∧ N_coin M i = mCn M t := by
  rcases tab_3 h i with hi | ⟨t, ht, rfl⟩
  · exact Or.inl (rf_coin1 h hi).2
  · by_cases hf : ¬ M 7 t = -1 ∨ nG M = 40
    · exact Or.inl (rf_coin2 h ht hf).2
    · have hG := nG40 h
      have e7 : M 7 t = -1 := Decidable.byContradiction (fun q => hf (Or.inl q))
      have e40 : nG M < 40 := by
        by_cases q : nG M = 40
        · exact absurd (Or.inr q) hf
        · omega
      have e := sp_coin h ht e7 e40
      have e0 : mCn M t 0 0 = 0 := by
        unfold mCn mCo
        rw [pMn (by omega), pMn (by omega), pMn (by omega), pMn (by omega), cmQ_o _ _ _ (by omega), cmP_o _ _ _ (by omega), pMn (by omega), pMn (by omega), pM_s]
      exact Or.inr ⟨t, ht, e7, e40, (an_e (nums := [1, 3]) e e0).2⟩
theorem cs_rob (h : WM M) (i x : Int32) : N_rob M i x = M ∨ ∃ t, t < nT M ∧ inR x 1 100 ∧ x ≤ M 4 t ∧ N_rob M i x = pM (pM M 0 0 0) 4 t (M 4 t - x) := by
  rcases tab_3 h i with hi | ⟨t, ht, rfl⟩
  · exact Or.inl (rf_rob1 h hi).2
  · by_cases hr : inR x 1 100
    · by_cases hb : x ≤ M 4 t
      · exact Or.inr ⟨t, ht, hr, hb, (an_e (nums := [1, 2, 3]) (sp_rob h ht hr hb) (by simp (disch := omega) only [pMn, pM_s])).2⟩
      · exact Or.inl (rf_rob3 h ht hr hb).2
    · exact Or.inl (rf_rob2 h ht hr).2
theorem cs_load (i j x : Int32) : N_load M i j x = M ∨ ∃ u y, N_load M i j x = pM (pM M 0 0 0) 50 u y := by
  by_cases hi : i < 0 ∨ 1 < i
  · exact Or.inl (rf_load1 hi).2
  · rcases van_3 (M := M) i with ⟨v, hv, rfl⟩ | e2
    · by_cases hr : inR j 0 1 ∧ inR x 1 20
      · obtain ⟨k, hk, rfl⟩ := kind_of hr.1
        by_cases h20 : (20 : Int32) < M 50 (2 * v + k) + x
        · exact Or.inl (rf_load3 hv hk hr.2 h20).2
        · exact Or.inr ⟨_, _, (an_e (nums := [1, 2, 3]) (sp_load hv hk hr.2 h20) (by simp (disch := omega) only [pMn, pM_s])).2⟩
      · exact Or.inl (rf_load2 hv hr).2
    · exact Or.inl (nx_f (so_load1 e2) i1n)
-- each keeps what holds
theorem inv_tables (h : INV M) (i j : Int32) : INV (N_tables M i j) := by
  obtain ⟨⟨S, hT⟩, j1, j2, j3⟩ := h
  refine ⟨tie_nx hT (zsteps_tie.2.1 S M i j hT), ?_⟩
  rcases cs_tables hT.1 i j with ⟨-, e⟩ | ⟨h6, -, r2, -, e⟩
  · rw [e]; exact ⟨j1, j2, j3⟩
  · rw [e]
    have o : ∀ k, k ≠ 0 → k ≠ 1 → k ≠ 2 → k ≠ 3 → k ≠ 7 → pM (pM (pM (pM (pM M 0 0 0) 2 (nT M) i) 3 (nT M) j) 7 (nT M) (-1)) 1 0 (nI (nT M + 1)) k = M k := fun k a b c d e => by rw [pMn b, pMn e, pMn d, pMn c, pMn a]
    refine ⟨J1_fr hT.1 (fun k a b => o k (by omega) (by omega) (by omega) (by omega) (by omega)) j1, J2_fr (fun k a b => o k (by omega) (by omega) (by omega) (by omega) (by omega)) (by unfold nS; rw [o 22 (by omega) (by omega) (by omega) (by omega) (by omega)]; exact Nat.le_refl _) j2, fun t ht => ?_⟩
    have eT : nT (pM (pM (pM (pM (pM M 0 0 0) 2 (nT M) i) 3 (nT M) j) 7 (nT M) (-1)) 1 0 (nI (nT M + 1))) = nT M + 1 := by
      show (pM _ 1 0 (nI (nT M + 1)) 1 0).toNatClampNeg = nT M + 1
      rw [pM_s]
      exact nI_clamp (by omega)
    rw [eT] at ht
    have eG : nG (pM (pM (pM (pM (pM M 0 0 0) 2 (nT M) i) 3 (nT M) j) 7 (nT M) (-1)) 1 0 (nI (nT M + 1))) = nG M := by unfold nG; rw [o 24 (by omega) (by omega) (by omega) (by omega) (by omega)]
    rw [eG, o 4 (by omega) (by omega) (by omega) (by omega) (by omega), pMn (show 3 ≠ 1 by omega), pMn (show 3 ≠ 7 by omega), pM_at]
    by_cases e : t = nT M
    · rw [if_pos ⟨rfl, e⟩]
      refine ⟨inR_of r2 (show (1 : Int32) = nI 1 by decide) (show (9 : Int32) = nI 9 by decide) (by omega) (by omega), 0, Nat.le_refl _, Nat.zero_le _, ?_⟩
      rw [((hT.1.2.2.2.1 t (by omega)).2 (by omega)).2.1, nI_0]
    · rw [if_neg (fun q => e q.2), pMn (show 3 ≠ 2 by omega), pMn (show 3 ≠ 0 by omega)]
      exact j3 t (by omega)
theorem inv_bumpers (h : INV M) (i a2 a3 a4 a5 : Int32) : INV (N_bumpers M i a2 a3 a4 a5) := by
  obtain ⟨⟨S, hT⟩, j1, j2, j3⟩ := h
  refine ⟨tie_nx hT (zsteps_tie.2.2.1 S M i a2 a3 a4 a5 hT), ?_⟩
  rcases cs_bumpers hT.1 i a2 a3 a4 a5 with ⟨-, e⟩ | ⟨t, -, -, -, -, -, e⟩
  · rw [e]; exact ⟨j1, j2, j3⟩
  · rw [e]
    have o := fun k h => mBm_o (M := M) (t := t) (b := nB M t) (i2 := a2) (i3 := a3) (iw := a4 / 100) (ih := a4 - a4 / 100 * 100) (i5 := a5) k h
    exact ⟨J1_fr hT.1 (fun k a b => o k (by omega)) j1, J2_fr (fun k a b => o k (by omega)) (by unfold nS; rw [o 22 (by omega)]; exact Nat.le_refl _) j2, J3_fr (by unfold nT; rw [o 1 (by omega)]) (o 3 (by omega)) (o 4 (by omega)) (by unfold nG; rw [o 24 (by omega)]; exact Nat.le_refl _) j3⟩
theorem inv_points (h : INV M) (i j x : Int32) : INV (N_points M i j x) := by
  obtain ⟨⟨S, hT⟩, j1, j2, j3⟩ := h
  refine ⟨tie_nx hT (zsteps_tie.2.2.2.1 S M i j x hT), ?_⟩
  rcases cs_points hT.1 i j x with ⟨-, e⟩ | ⟨u, e⟩
  · rw [e]; exact ⟨j1, j2, j3⟩
  · rw [e]
    have o : ∀ k, k ≠ 0 → k ≠ 14 → pM (pM M 0 0 0) 14 u x k = M k := fun k a b => by rw [pMn b, pMn a]
    exact ⟨J1_fr hT.1 (fun k a b => o k (by omega) (by omega)) j1, J2_fr (fun k a b => o k (by omega) (by omega)) (by unfold nS; rw [o 22 (by omega) (by omega)]; exact Nat.le_refl _) j2, J3_fr (by unfold nT; rw [o 1 (by omega) (by omega)]) (o 3 (by omega) (by omega)) (o 4 (by omega) (by omega)) (by unfold nG; rw [o 24 (by omega) (by omega)]; exact Nat.le_refl _) j3⟩
theorem inv_modes (h : INV M) (i j a3 a4 a5 : Int32) : INV (N_modes M i j a3 a4 a5) := by
  obtain ⟨⟨S, hT⟩, j1, j2, j3⟩ := h
  refine ⟨tie_nx hT (zsteps_tie.2.2.2.2.1 S M i j a3 a4 a5 hT), ?_⟩
  rcases cs_modes hT.1 i j a3 a4 a5 with e | ⟨t, q, x7, x8, x9, x0, x1, e⟩
  · rw [e]; exact ⟨j1, j2, j3⟩
  · rw [e]
    have o := fun k h => mSm_o (M := M) (t := t) (j := q) (x7 := x7) (x8 := x8) (x9 := x9) (x0 := x0) (x1 := x1) k h
    exact ⟨J1_fr hT.1 (fun k a b => o k (by omega)) j1, J2_fr (fun k a b => o k (by omega)) (by unfold nS; rw [o 22 (by omega)]; exact Nat.le_refl _) j2, J3_fr (by unfold nT; rw [o 1 (by omega)]) (o 3 (by omega)) (o 4 (by omega)) (by unfold nG; rw [o 24 (by omega)]; exact Nat.le_refl _) j3⟩
theorem inv_stick (h : INV M) (i j : Int32) : INV (N_stick M i j) := by
  obtain ⟨⟨S, hT⟩, j1, j2, j3⟩ := h
  refine ⟨tie_nx hT (zsteps_tie.2.2.2.2.2.2.1 S M i j hT), ?_⟩
  rcases cs_stick hT.1 i j with ⟨-, e⟩ | ⟨t, b, -, -, h60, -, e⟩
  · rw [e]; exact ⟨j1, j2, j3⟩
  · rw [e]
    have o : ∀ k, k ≠ 0 → k ≠ 16 → k ≠ 22 → pM (pM (pM M 0 0 0) 16 (8 * t + b) (nI (nS M))) 22 0 (nI (nS M + 1)) k = M k := fun k a b c => by rw [pMn c, pMn b, pMn a]
    refine ⟨J1_fr hT.1 (fun k a b => o k (by omega) (by omega) (by omega)) j1, J2_fr (fun k a b => o k (by omega) (by omega) (by omega)) ?_ j2, J3_fr (by unfold nT; rw [o 1 (by omega) (by omega) (by omega)]) (o 3 (by omega) (by omega) (by omega)) (o 4 (by omega) (by omega) (by omega)) (by unfold nG; rw [o 24 (by omega) (by omega) (by omega)]; exact Nat.le_refl _) j3⟩
    show nS M ≤ (pM _ 22 0 (nI (nS M + 1)) 22 0).toNatClampNeg
    rw [pM_s, nI_clamp (by omega)]
    omega
theorem inv_load (h : INV M) (i j x : Int32) : INV (N_load M i j x) := by
  obtain ⟨⟨S, hT⟩, j1, j2, j3⟩ := h
  have hz : ∃ S', Tie S' (N_load M i j x) := tie_nx hT (ok_load S M i j x hT)
  refine ⟨hz, ?_⟩
  rcases cs_load (M := M) i j x with e | ⟨u, y, e⟩
  · rw [e]; exact ⟨j1, j2, j3⟩
  · rw [e]
    have o : ∀ k, k ≠ 0 → k ≠ 50 → pM (pM M 0 0 0) 50 u y k = M k := fun k a b => by rw [pMn b, pMn a]
    exact ⟨J1_fr hT.1 (fun k a b => o k (by omega) (by omega)) j1, J2_fr (fun k a b => o k (by omega) (by omega)) (by unfold nS; rw [o 22 (by omega) (by omega)]; exact Nat.le_refl _) j2, J3_fr (by unfold nT; rw [o 1 (by omega) (by omega)]) (o 3 (by omega) (by omega)) (o 4 (by omega) (by omega)) (by unfold nG; rw [o 24 (by omega) (by omega)]; exact Nat.le_refl _) j3⟩
theorem inv_rob (h : INV M) (i x : Int32) : INV (N_rob M i x) := by
  obtain ⟨⟨S, hT⟩, j1, j2, j3⟩ := h
  have hz : ∃ S', Tie S' (N_rob M i x) := tie_nx hT (ok_rob S M i x hT)
  refine ⟨hz, ?_⟩
  rcases cs_rob hT.1 i x with e | ⟨t, ht, hr, hb, e⟩
  · rw [e]; exact ⟨j1, j2, j3⟩
  · rw [e]
    have o : ∀ k, k ≠ 0 → k ≠ 4 → pM (pM M 0 0 0) 4 t (M 4 t - x) k = M k := fun k a b => by rw [pMn b, pMn a]
    refine ⟨J1_fr hT.1 (fun k a b => o k (by omega) (by omega)) j1, J2_fr (fun k a b => o k (by omega) (by omega)) (by unfold nS; rw [o 22 (by omega) (by omega)]; exact Nat.le_refl _) j2, fun u hu => ?_⟩
    have eT : nT (pM (pM M 0 0 0) 4 t (M 4 t - x)) = nT M := by unfold nT; rw [o 1 (by omega) (by omega)]
    have eG : nG (pM (pM M 0 0 0) 4 t (M 4 t - x)) = nG M := by unfold nG; rw [o 24 (by omega) (by omega)]
    have hG := nG40 hT.1
    rw [eT] at hu
    obtain ⟨a, m, -, m2, e4⟩ := j3 u hu
    rw [eG, o 3 (by omega) (by omega), pM_at]
    refine ⟨a, ?_⟩
    by_cases eu : u = t
    · subst eu
      rw [if_pos ⟨rfl, rfl⟩]
      obtain ⟨c, c1, c2, rfl⟩ := inR_of hr (show (1 : Int32) = nI 1 by decide) (show (100 : Int32) = nI 100 by decide) (by omega) (by omega)
      rw [e4] at hb ⊢
      have hcm : c ≤ m := (nI_leI (by omega) (by omega)).mp hb
      rw [pk_sub hcm]
      exact ⟨m - c, Nat.zero_le _, by omega, rfl⟩
    · rw [if_neg (fun q => eu q.2), pMn (show 4 ≠ 0 by omega)]
      exact ⟨m, Nat.zero_le _, m2, e4⟩
theorem mCn_o (k : Nat) (h : k ≠ 0 ∧ k ≠ 4 ∧ k ≠ 5 ∧ k ≠ 7 ∧ k ≠ 24 ∧ k ≠ 25 ∧ k ≠ 26 ∧ (k < 28 ∨ 33 < k)) : mCn M t k = M k := by
  unfold mCn
  rw [pMn (by omega), pMn (by omega), pMn (by omega), mCo_o _ _ _ _ (by omega), pMn (by omega)]
theorem mCn_m (k : Nat) (h : k ≠ 4 ∧ k ≠ 5 ∧ k ≠ 7) : mCn M t k = mCo (pM M 0 0 0) t (nG M) k := by
  unfold mCn
  rw [pMn (by omega), pMn (by omega), pMn (by omega)]
theorem nrm_0 (f : Nat → Int32) : nrm 0 f = fun _ => 0 := by
  funext i
  exact if_neg (by omega)
theorem inv_coin (h : INV M) (i : Int32) : INV (N_coin M i) := by
  obtain ⟨⟨S, hT⟩, j1, j2, j3⟩ := h
  have hz : ∃ S', Tie S' (N_coin M i) := tie_nx hT (ok_coin S M i hT)
  refine ⟨hz, ?_⟩
  rcases cs_coin hT.1 i with e | ⟨t, ht, e7, h40, e⟩
  · rw [e]; exact ⟨j1, j2, j3⟩
  · rw [e]
    have eG : nG (mCn M t) = nG M + 1 := by
      unfold nG
      rw [mCn_m 24 (by omega), mCo_24]
      exact nI_clamp (by omega)
    have eT : nT (mCn M t) = nT M := by unfold nT; rw [mCn_o 1 (by omega)]
    have eL : ∀ u, nL (mCn M t) u = if u = nG M then 3 else nL M u := fun u => by
      unfold nL
      rw [mCn_m 26 (by omega), mCo_26]
      by_cases q : u = nG M
      · rw [if_pos q, if_pos q]; rfl
      · rw [if_neg q, if_neg q, pMn (by omega)]
    have eP : ∀ u, plG (mCn M t) u = plG M u := fun u => by
      unfold plG nD
      rw [mCn_o 27 (by omega), mCn_o 34 (by omega), mCn_o 35 (by omega), mCn_o 36 (by omega)]
    refine ⟨fun g hg => ?_, fun g b k hg hb hk => ?_, fun u hu => ?_⟩
    · rw [eG] at hg
      rw [eP]
      by_cases q : g = nG M
      · have e0 : ents (mCn M t) g = [] := by
          unfold ents
          rw [eL, if_pos q]
          rfl
        obtain ⟨a27, a34⟩ := (hT.1.2.2.2.2.2.2.2.2.1 g (by omega)).2 (by omega)
        have ed : nD M g = 0 := by unfold nD; rw [a34]; rfl
        rw [e0]
        unfold plG
        rw [ed, nrm_0, nrm_0, a27]
        rfl
      · have hg1 : g < nG M := by omega
        have e1 : ents (mCn M t) g = ents M g := ents_eq2 (by rw [eL, if_neg q]) (mCn_o 37 (by omega)) (mCn_o 38 (by omega)) (mCn_o 39 (by omega))
        rw [e1, plS_e hT.1 hg1 ⟨fun k hk => ?_, fun r r1 r2 j hj => ?_⟩]
        · exact j1 g hg1
        · rw [mCn_m 28 (by omega), mCo_28, if_neg (by omega), pMn (by omega)]
        · rw [mCn_m r (by omega)]
          have hr : r = 29 ∨ r = 30 ∨ r = 31 ∨ r = 32 ∨ r = 33 := by omega
          rcases hr with rfl | rfl | rfl | rfl | rfl
          · rw [mCo_29, if_neg (by omega), pMn (by omega)]
          · rw [mCo_30, if_neg (by omega), pMn (by omega)]
          · rw [mCo_31, if_neg (by omega), pMn (by omega)]
          · rw [mCo_32, if_neg (by omega), pMn (by omega)]
          · rw [mCo_33, if_neg (by omega), pMn (by omega)]
    · rw [eG] at hg
      rw [eL] at hb
      have eS : nS (mCn M t) = nS M := by unfold nS; rw [mCn_o 22 (by omega)]
      rw [eS, mCn_o 39 (by omega)]
      by_cases q : g = nG M
      · rw [if_pos q] at hb; omega
      · rw [if_neg q] at hb
        exact j2 g b k (by omega) hb hk
    · rw [eT] at hu
      obtain ⟨a, m, -, m2, e4⟩ := j3 u hu
      have hG := nG40 hT.1
      rw [eG, mCn_o 3 (by omega)]
      refine ⟨a, ?_⟩
      have q4 : mCn M t 4 u = if u = t then M 4 t + M 3 t else M 4 u := by
        unfold mCn
        rw [pMn (by omega), pM_at]
        by_cases q : u = t
        · rw [if_pos ⟨rfl, q⟩, if_pos q]
        · rw [if_neg (fun x => q x.2), if_neg q, pMn (by omega), mCo_o _ _ _ _ (by omega), pMn (by omega)]
      rw [q4]
      by_cases q : u = t
      · subst q
        obtain ⟨p, p1, p2, e3⟩ := a
        rw [if_pos rfl, e4, e3, nI_add]
        exact ⟨m + p, Nat.zero_le _, by omega, rfl⟩
      · rw [if_neg q]
        exact ⟨m, Nat.zero_le _, by omega, e4⟩
end PIV
