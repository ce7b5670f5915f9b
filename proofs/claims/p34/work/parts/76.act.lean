/-! AN ACT: what it keeps, what it changes -/
def actB (M : zMs) (i_3 x1 x4 x7 x10 : Int32) : Option (Int32 × zMs) :=
if (i_3 - i_3 / (32 : Int32) * (32 : Int32)) < 0 ∨ (20 : Int32) < (i_3 - i_3 / (32 : Int32) * (32 : Int32)) then
st (N_shoot M x4 ((x1 / (8 : Int32)) - (x1 / (8 : Int32)) / (160 : Int32) * (160 : Int32)) (((x1 / (1280 : Int32)) - (x1 / (1280 : Int32)) / (61 : Int32) * (61 : Int32)) - (30 : Int32)) (((x1 / (9 : Int32)) - (x1 / (9 : Int32)) / (61 : Int32) * (61 : Int32)) - (30 : Int32))) fun M11 =>
some (((A_shoot M x4 ((x1 / (8 : Int32)) - (x1 / (8 : Int32)) / (160 : Int32) * (160 : Int32)) (((x1 / (1280 : Int32)) - (x1 / (1280 : Int32)) / (61 : Int32) * (61 : Int32)) - (30 : Int32)) (((x1 / (9 : Int32)) - (x1 / (9 : Int32)) / (61 : Int32) * (61 : Int32)) - (30 : Int32))), M11))
else
if (i_3 - i_3 / (32 : Int32) * (32 : Int32)) = (0 : Int32) then
st (N_tables M (x1 - x1 / (101 : Int32) * (101 : Int32)) ((1 : Int32) + ((x1 / (101 : Int32)) - (x1 / (101 : Int32)) / (9 : Int32) * (9 : Int32)))) fun M12 =>
some (((A_tables M (x1 - x1 / (101 : Int32) * (101 : Int32)) ((1 : Int32) + ((x1 / (101 : Int32)) - (x1 / (101 : Int32)) / (9 : Int32) * (9 : Int32)))), M12))
else
if (i_3 - i_3 / (32 : Int32) * (32 : Int32)) = (1 : Int32) ∨ (i_3 - i_3 / (32 : Int32) * (32 : Int32)) = (2 : Int32) ∨ (i_3 - i_3 / (32 : Int32) * (32 : Int32)) = (3 : Int32) ∨ (i_3 - i_3 / (32 : Int32) * (32 : Int32)) = (4 : Int32) then
st (N_bumpers M x4 ((x1 / (8 : Int32)) - (x1 / (8 : Int32)) / (160 : Int32) * (160 : Int32)) ((x1 / (1280 : Int32)) - (x1 / (1280 : Int32)) / (240 : Int32) * (240 : Int32)) ((((100 : Int32) * ((1 : Int32) + ((x1 / (7 : Int32)) - (x1 / (7 : Int32)) / (60 : Int32) * (60 : Int32)))) + (1 : Int32)) + ((x1 / (11 : Int32)) - (x1 / (11 : Int32)) / (60 : Int32) * (60 : Int32))) ((x1 / (13 : Int32)) - (x1 / (13 : Int32)) / (21 : Int32) * (21 : Int32))) fun M13 =>
some (((A_bumpers M x4 ((x1 / (8 : Int32)) - (x1 / (8 : Int32)) / (160 : Int32) * (160 : Int32)) ((x1 / (1280 : Int32)) - (x1 / (1280 : Int32)) / (240 : Int32) * (240 : Int32)) ((((100 : Int32) * ((1 : Int32) + ((x1 / (7 : Int32)) - (x1 / (7 : Int32)) / (60 : Int32) * (60 : Int32)))) + (1 : Int32)) + ((x1 / (11 : Int32)) - (x1 / (11 : Int32)) / (60 : Int32) * (60 : Int32))) ((x1 / (13 : Int32)) - (x1 / (13 : Int32)) / (21 : Int32) * (21 : Int32))), M13))
else
if (i_3 - i_3 / (32 : Int32) * (32 : Int32)) = (5 : Int32) ∨ (i_3 - i_3 / (32 : Int32) * (32 : Int32)) = (6 : Int32) then
st (N_points M x4 x10 ((x1 / (16 : Int32)) - (x1 / (16 : Int32)) / (1001 : Int32) * (1001 : Int32))) fun M14 =>
some (((A_points M x4 x10 ((x1 / (16 : Int32)) - (x1 / (16 : Int32)) / (1001 : Int32) * (1001 : Int32))), M14))
else
if (i_3 - i_3 / (32 : Int32) * (32 : Int32)) = (7 : Int32) ∨ (i_3 - i_3 / (32 : Int32) * (32 : Int32)) = (8 : Int32) then
st (fun (y15 : Int32) => (st (N_modes M x4 ((x1 / (8 : Int32)) - (x1 / (8 : Int32)) / (4 : Int32) * (4 : Int32)) y15 ((((100 : Int32) * ((1 : Int32) + ((x1 / (256 : Int32)) - (x1 / (256 : Int32)) / (8 : Int32) * (8 : Int32)))) + (2 : Int32)) + ((x1 / (5 : Int32)) - (x1 / (5 : Int32)) / (8 : Int32) * (8 : Int32))) ((x1 / (9 : Int32)) - (x1 / (9 : Int32)) / (5001 : Int32) * (5001 : Int32))) fun M17 =>
some (((A_modes M x4 ((x1 / (8 : Int32)) - (x1 / (8 : Int32)) / (4 : Int32) * (4 : Int32)) y15 ((((100 : Int32) * ((1 : Int32) + ((x1 / (256 : Int32)) - (x1 / (256 : Int32)) / (8 : Int32) * (8 : Int32)))) + (2 : Int32)) + ((x1 / (5 : Int32)) - (x1 / (5 : Int32)) / (8 : Int32) * (8 : Int32))) ((x1 / (9 : Int32)) - (x1 / (9 : Int32)) / (5001 : Int32) * (5001 : Int32))), M17)) : Option (Int32 × zMs))) fun j16 =>
if ((x1 / (3 : Int32)) - (x1 / (3 : Int32)) / (5 : Int32) * (5 : Int32)) = 0 then
j16 (-1 : Int32)
else
st (fun (y18 : Int32) => (j16 (((10 : Int32) * x10) + y18) : Option (Int32 × zMs))) fun j19 =>
if x7 = 0 then
j19 (0 : Int32)
else
gd (¬ x7 = 0) (
j19 ((x1 / (64 : Int32)) - (x1 / (64 : Int32)) / x7 * x7))
else
if (i_3 - i_3 / (32 : Int32) * (32 : Int32)) = (9 : Int32) ∨ (i_3 - i_3 / (32 : Int32) * (32 : Int32)) = (10 : Int32) ∨ (i_3 - i_3 / (32 : Int32) * (32 : Int32)) = (11 : Int32) then
st (N_stick M x4 x10) fun M20 =>
some (((A_stick M x4 x10), M20))
else
if (i_3 - i_3 / (32 : Int32) * (32 : Int32)) = (12 : Int32) ∨ (i_3 - i_3 / (32 : Int32) * (32 : Int32)) = (13 : Int32) ∨ (i_3 - i_3 / (32 : Int32) * (32 : Int32)) = (14 : Int32) ∨ (i_3 - i_3 / (32 : Int32) * (32 : Int32)) = (15 : Int32) then
st (N_coin M x4) fun M21 =>
some (((A_coin M x4), M21))
else
if (i_3 - i_3 / (32 : Int32) * (32 : Int32)) = (16 : Int32) then
st (N_rob M x4 ((1 : Int32) + ((x1 / (8 : Int32)) - (x1 / (8 : Int32)) / (9 : Int32) * (9 : Int32)))) fun M22 =>
some (((A_rob M x4 ((1 : Int32) + ((x1 / (8 : Int32)) - (x1 / (8 : Int32)) / (9 : Int32) * (9 : Int32)))), M22))
else
if (i_3 - i_3 / (32 : Int32) * (32 : Int32)) = (17 : Int32) ∨ (i_3 - i_3 / (32 : Int32) * (32 : Int32)) = (18 : Int32) then
st (N_load M ((x1 / (8 : Int32)) - (x1 / (8 : Int32)) / (2 : Int32) * (2 : Int32)) ((x1 / (16 : Int32)) - (x1 / (16 : Int32)) / (2 : Int32) * (2 : Int32)) ((1 : Int32) + ((x1 / (32 : Int32)) - (x1 / (32 : Int32)) / (4 : Int32) * (4 : Int32)))) fun M23 =>
some (((A_load M ((x1 / (8 : Int32)) - (x1 / (8 : Int32)) / (2 : Int32) * (2 : Int32)) ((x1 / (16 : Int32)) - (x1 / (16 : Int32)) / (2 : Int32) * (2 : Int32)) ((1 : Int32) + ((x1 / (32 : Int32)) - (x1 / (32 : Int32)) / (4 : Int32) * (4 : Int32)))), M23))
else
if (i_3 - i_3 / (32 : Int32) * (32 : Int32)) = (19 : Int32) ∨ (i_3 - i_3 / (32 : Int32) * (32 : Int32)) = (20 : Int32) then
st (N_go M ((x1 / (8 : Int32)) - (x1 / (8 : Int32)) / (2 : Int32) * (2 : Int32))) fun M24 =>
some (((A_go M ((x1 / (8 : Int32)) - (x1 / (8 : Int32)) / (2 : Int32) * (2 : Int32))), M24))
else
none
def actD (M : zMs) (i_3 x1 x4 x7 : Int32) : Option (Int32 × zMs) := st x7 fun x7 => st (fun (y8 : Int32) => (st y8 fun x10 => actB M i_3 x1 x4 x7 x10 : Option (Int32 × zMs))) fun j9 => if x7 = 0 then j9 (0 : Int32) else gd (¬ x7 = 0) (j9 ((x1 / (8 : Int32)) - (x1 / (8 : Int32)) / x7 * x7))
def actC (M : zMs) (I : Nat → Int32) (i_3 x1 : Int32) (y2 : Int32) : Option (Int32 × zMs) := st y2 fun x4 => st (fun (y5 : Int32) => (actD M i_3 x1 x4 y5 : Option (Int32 × zMs))) fun j6 => if (M 1 0) = 0 then j6 (0 : Int32) else gd (¬ (x4 < 0 ∨ 14 ≤ x4.toNatClampNeg)) (j6 (I x4.toNatClampNeg))
section PAC
variable {S : zSt} {M M1 : zMs} {I : Nat → Int32} {t b g v k X : Nat}
/-- the numbers of tables, bumpers and stickings, and the sites, stay -/
def Sm (M M1 : zMs) : Prop := M1 1 = M 1 ∧ M1 2 = M 2 ∧ M1 8 = M 8 ∧ M1 22 = M 22
theorem Sm_r (M : zMs) : Sm M M := ⟨rfl, rfl, rfl, rfl⟩
theorem Sm_n (h : Sm M M1) : nT M1 = nT M ∧ (∀ t, nB M1 t = nB M t) ∧ nS M1 = nS M := ⟨by unfold nT; rw [h.1], fun t => by unfold nB; rw [h.2.2.1], by unfold nS; rw [h.2.2.2]⟩
theorem sm_points (h : WM M) (i j x : Int32) : Sm M (N_points M i j x) := by
  rcases cs_points h i j x with ⟨-, e⟩ | ⟨u, e⟩
  · rw [e]; exact Sm_r M
  · rw [e]; exact ⟨by rw [pMn (by decide), pMn (by decide)], by rw [pMn (by decide), pMn (by decide)], by rw [pMn (by decide), pMn (by decide)], by rw [pMn (by decide), pMn (by decide)]⟩
theorem sm_modes (h : WM M) (i j a3 a4 a5 : Int32) : Sm M (N_modes M i j a3 a4 a5) := by
  rcases cs_modes h i j a3 a4 a5 with e | ⟨t, q, x7, x8, x9, x0, x1, e⟩
  · rw [e]; exact Sm_r M
  · rw [e]; exact ⟨mSm_o 1 (by omega), mSm_o 2 (by omega), mSm_o 8 (by omega), mSm_o 22 (by omega)⟩
theorem sm_coin (h : WM M) (i : Int32) : Sm M (N_coin M i) := by
  rcases cs_coin h i with e | ⟨t, -, -, -, e⟩
  · rw [e]; exact Sm_r M
  · rw [e]; exact ⟨mCn_o 1 (by omega), mCn_o 2 (by omega), mCn_o 8 (by omega), mCn_o 22 (by omega)⟩
theorem sm_rob (h : WM M) (i x : Int32) : Sm M (N_rob M i x) := by
  rcases cs_rob h i x with e | ⟨t, -, -, -, e⟩
  · rw [e]; exact Sm_r M
  · rw [e]; exact ⟨by rw [pMn (by decide), pMn (by decide)], by rw [pMn (by decide), pMn (by decide)], by rw [pMn (by decide), pMn (by decide)], by rw [pMn (by decide), pMn (by decide)]⟩
theorem sm_load (i j x : Int32) : Sm M (N_load M i j x) := by
  rcases cs_load (M := M) i j x with e | ⟨u, y, e⟩
  · rw [e]; exact Sm_r M
  · rw [e]; exact ⟨by rw [pMn (by decide), pMn (by decide)], by rw [pMn (by decide), pMn (by decide)], by rw [pMn (by decide), pMn (by decide)], by rw [pMn (by decide), pMn (by decide)]⟩
theorem sm_shoot (h : INV M) (i a2 a3 a4 : Int32) : Sm M (N_shoot M i a2 a3 a4) := by
  obtain ⟨S, hT⟩ := h.1
  rcases cs_shoot hT.1 i a2 a3 a4 with e | ⟨t, g, ht, rfl, ha, hg, e7, e25, eL⟩
  · rw [e]; exact Sm_r M
  · obtain ⟨-, -, -, m, -, -, -, -, -, o⟩ := sht h ht ha hg e7 e25 eL
    exact ⟨o 1 (by omega), o 2 (by omega), o 8 (by omega), o 22 (by omega)⟩
/-- a van goes: what stays -/
theorem go_fr {M0 : zMs} {bst : Nat → Nat} {c : Nat} (p7 : qF M M0) (hR : goR (pM M0 0 0 0) M1 v bst 0 c) : ∀ k, k ≠ 0 ∧ k ≠ 4 ∧ k ≠ 5 ∧ k ≠ 6 ∧ k ≠ 15 ∧ k ≠ 16 ∧ k ≠ 23 ∧ k ≠ 49 ∧ k < 50 → M1 k = M k := fun k hk => by
  rw [hR.1 k (by omega), pMn (by omega), p7 k (by omega) (by omega) (by omega) (by omega)]
theorem go_4 {M0 : zMs} {bst : Nat → Nat} {c : Nat} (p7 : qF M M0) (hR : goR (pM M0 0 0 0) M1 v bst 0 c) (u : Nat) : (M1 4 u = M 4 u ∧ ∀ i, i < c → bst i ≠ u) ∨ (M1 4 u = 0 ∧ ∃ i, i < c ∧ bst i = u) := by
  by_cases e : ∃ i, i < c ∧ bst i = u
  · obtain ⟨i, hi, rfl⟩ := e
    exact Or.inr ⟨hR.2.2.2.2.1 i (Nat.zero_le _) hi, i, hi, rfl⟩
  · have hn : ∀ i, i < c → bst i ≠ u := fun i hi q => e ⟨i, hi, q⟩
    refine Or.inl ⟨?_, hn⟩
    rw [hR.2.2.2.1 u (fun i _ hi => hn i hi), pMn (by decide), p7 4 (by decide) (by decide) (by decide) (by decide)]
theorem ig_go (h : INV M) (i : Int32) : INV (N_go M i) ∧ Sm M (N_go M i) := by
  have hI := h
  obtain ⟨⟨S, hT⟩, j1, j2, j3⟩ := h
  rcases van_3 (M := M) i with ⟨v, hv, rfl⟩ | e2
  · obtain ⟨c, a, bst, hc, ha, e49, hPm, -, -, -, g0, g1⟩ := plA hT hv
    by_cases c0 : c = 0
    · rw [(g0 c0).2]; exact ⟨hI, Sm_r M⟩
    · obtain ⟨-, hz, M0, p7, hR⟩ := g1 (by omega)
      have o := go_fr p7 hR
      have oT : nT (N_go M (nI v)) = nT M := by unfold nT; rw [o 1 (by omega)]
      have oG : nG (N_go M (nI v)) = nG M := by unfold nG; rw [o 24 (by omega)]
      refine ⟨⟨hz, J1_fr hT.1 (fun k a b => o k (by omega)) j1, J2_fr (fun k a b => o k (by omega)) (by unfold nS; rw [o 22 (by omega)]; exact Nat.le_refl _) j2, fun u hu => ?_⟩, o 1 (by omega), o 2 (by omega), o 8 (by omega), o 22 (by omega)⟩
      rw [oT] at hu
      obtain ⟨p, m, -, m2, e4⟩ := j3 u hu
      rw [oG, o 3 (by omega)]
      refine ⟨p, ?_⟩
      rcases go_4 p7 hR u with ⟨e, -⟩ | ⟨e, -⟩
      · rw [e]; exact ⟨m, Nat.zero_le _, m2, e4⟩
      · rw [e]; exact ⟨0, Nat.zero_le _, Nat.zero_le _, nI_0.symm⟩
  · rw [show N_go M i = M from nx_f (so_go1 e2) i1n]
    exact ⟨hI, Sm_r M⟩
/-- what an act of kind K has done at table T -/
def acP (M M1 : zMs) (K T s : Nat) (d : Int32) : Prop :=
  if K = 0 then (d < 0 ∧ M1 = M) ∨ (nT M < 6 ∧ d = nI (nT M) ∧ nT M1 = nT M + 1 ∧ M1 2 = up1 (M 2) (nT M) (nI s) ∧ M1 8 = M 8 ∧ M1 22 = M 22)
  else if K < 5 then (d < 0 ∧ M1 = M) ∨ (T < nT M ∧ d = nI (nB M T) ∧ nB M T < 8 ∧ M1 1 = M 1 ∧ M1 2 = M 2 ∧ M1 22 = M 22 ∧ nB M1 T = nB M T + 1 ∧ ∀ u, u ≠ T → nB M1 u = nB M u)
  else if 8 < K ∧ K < 12 then (d < 0 ∧ M1 = M) ∨ (d = nI (nS M) ∧ nS M < 60 ∧ nS M1 = nS M + 1 ∧ M1 1 = M 1 ∧ M1 2 = M 2 ∧ M1 8 = M 8)
  else Sm M M1
theorem acP_s {K T s : Nat} {d : Int32} (h : Sm M M1) (h0 : ¬ K < 5) (h1 : ¬ (8 < K ∧ K < 12)) : acP M M1 K T s d := by
  unfold acP
  rw [if_neg (by omega), if_neg h0, if_neg h1]
  exact h
theorem act_b (h : INV M) (hX : X < 2 ^ 31) {T : Nat} (hT0 : nT M = 0 ∨ T < nT M) (x7 x10 : Int32) : ∃ d M1, actB M (nI X) (nI (X / 32)) (nI T) x7 x10 = some (d, M1) ∧ INV M1 ∧ acP M M1 (X % 32) T (X / 32 % 101) d := by
  obtain ⟨S, hT⟩ := h.1
  have hT6 := nT6 hT.1
  have hK : X % 32 < 32 := Nat.mod_lt _ (by omega)
  unfold actB
  rw [rm_32 hX]
  generalize hKe : X % 32 = K at *
  have k0 : (nI K = (0 : Int32)) = (K = 0) := propext (by rw [show (0 : Int32) = nI 0 by decide]; exact nI_eq (by omega) (by omega))
  have k1 : (nI K = (1 : Int32)) = (K = 1) := propext (by rw [show (1 : Int32) = nI 1 by decide]; exact nI_eq (by omega) (by omega))
  have k2 : (nI K = (2 : Int32)) = (K = 2) := propext (by rw [show (2 : Int32) = nI 2 by decide]; exact nI_eq (by omega) (by omega))
  have k3 : (nI K = (3 : Int32)) = (K = 3) := propext (by rw [show (3 : Int32) = nI 3 by decide]; exact nI_eq (by omega) (by omega))
  have k4 : (nI K = (4 : Int32)) = (K = 4) := propext (by rw [show (4 : Int32) = nI 4 by decide]; exact nI_eq (by omega) (by omega))
  have k5 : (nI K = (5 : Int32)) = (K = 5) := propext (by rw [show (5 : Int32) = nI 5 by decide]; exact nI_eq (by omega) (by omega))
  have k6 : (nI K = (6 : Int32)) = (K = 6) := propext (by rw [show (6 : Int32) = nI 6 by decide]; exact nI_eq (by omega) (by omega))
  have k7 : (nI K = (7 : Int32)) = (K = 7) := propext (by rw [show (7 : Int32) = nI 7 by decide]; exact nI_eq (by omega) (by omega))
  have k8 : (nI K = (8 : Int32)) = (K = 8) := propext (by rw [show (8 : Int32) = nI 8 by decide]; exact nI_eq (by omega) (by omega))
  have k9 : (nI K = (9 : Int32)) = (K = 9) := propext (by rw [show (9 : Int32) = nI 9 by decide]; exact nI_eq (by omega) (by omega))
  have k10 : (nI K = (10 : Int32)) = (K = 10) := propext (by rw [show (10 : Int32) = nI 10 by decide]; exact nI_eq (by omega) (by omega))
  have k11 : (nI K = (11 : Int32)) = (K = 11) := propext (by rw [show (11 : Int32) = nI 11 by decide]; exact nI_eq (by omega) (by omega))
  have k12 : (nI K = (12 : Int32)) = (K = 12) := propext (by rw [show (12 : Int32) = nI 12 by decide]; exact nI_eq (by omega) (by omega))
  have k13 : (nI K = (13 : Int32)) = (K = 13) := propext (by rw [show (13 : Int32) = nI 13 by decide]; exact nI_eq (by omega) (by omega))
  have k14 : (nI K = (14 : Int32)) = (K = 14) := propext (by rw [show (14 : Int32) = nI 14 by decide]; exact nI_eq (by omega) (by omega))
  have k15 : (nI K = (15 : Int32)) = (K = 15) := propext (by rw [show (15 : Int32) = nI 15 by decide]; exact nI_eq (by omega) (by omega))
  have k16 : (nI K = (16 : Int32)) = (K = 16) := propext (by rw [show (16 : Int32) = nI 16 by decide]; exact nI_eq (by omega) (by omega))
  have k17 : (nI K = (17 : Int32)) = (K = 17) := propext (by rw [show (17 : Int32) = nI 17 by decide]; exact nI_eq (by omega) (by omega))
  have k18 : (nI K = (18 : Int32)) = (K = 18) := propext (by rw [show (18 : Int32) = nI 18 by decide]; exact nI_eq (by omega) (by omega))
  have k19 : (nI K = (19 : Int32)) = (K = 19) := propext (by rw [show (19 : Int32) = nI 19 by decide]; exact nI_eq (by omega) (by omega))
  have k20 : (nI K = (20 : Int32)) = (K = 20) := propext (by rw [show (20 : Int32) = nI 20 by decide]; exact nI_eq (by omega) (by omega))
  have kn : (nI K < 0 ∨ (20 : Int32) < nI K) = (20 < K) := propext ⟨fun q => q.elim (fun q => absurd q (nI_pos (by omega))) (fun q => by rw [show (20 : Int32) = nI 20 by decide] at q; exact (nI_ltI (by omega) (by omega)).mp q), fun q => Or.inr (by rw [show (20 : Int32) = nI 20 by decide]; exact nI_lt q (by omega))⟩
  simp only [k0, k1, k2, k3, k4, k5, k6, k7, k8, k9, k10, k11, k12, k13, k14, k15, k16, k17, k18, k19, k20, kn]
  by_cases a1 : 20 < K
  · rw [if_pos a1]
    exact ⟨_, _, rfl, inv_shoot h _ _ _ _, acP_s (sm_shoot h _ _ _ _) (by omega) (by omega)⟩
  rw [if_neg a1]
  by_cases a2 : K = 0
  · rw [if_pos a2]
    refine ⟨_, _, rfl, inv_tables h _ _, ?_⟩
    unfold acP
    rw [if_pos a2, rm_101 (show X / 32 < 2 ^ 31 by omega)]
    rcases cs_tables hT.1 (nI (X / 32 % 101)) ((1 : Int32) + ((nI (X / 32) / (101 : Int32)) - (nI (X / 32) / (101 : Int32)) / (9 : Int32) * (9 : Int32))) with ⟨e1, e2⟩ | ⟨h6, -, -, e1, e2⟩
    · exact Or.inl ⟨e1, e2⟩
    · refine Or.inr ⟨h6, e1, ?_, ?_, ?_, ?_⟩
      · rw [e2]
        show (pM _ 1 0 (nI (nT M + 1)) 1 0).toNatClampNeg = nT M + 1
        rw [pM_s]
        exact nI_clamp (by omega)
      · rw [e2, pMn (by decide), pMn (by decide), pMn (by decide), pM_up, pMn (by decide)]
      · rw [e2, pMn (by decide), pMn (by decide), pMn (by decide), pMn (by decide), pMn (by decide)]
      · rw [e2, pMn (by decide), pMn (by decide), pMn (by decide), pMn (by decide), pMn (by decide)]
  rw [if_neg a2]
  by_cases a3 : K = 1 ∨ K = 2 ∨ K = 3 ∨ K = 4
  · rw [if_pos a3]
    refine ⟨_, _, rfl, inv_bumpers h _ _ _ _ _, ?_⟩
    unfold acP
    rw [if_neg a2, if_pos (by omega)]
    rcases cs_bumpers hT.1 (nI T) _ _ _ _ with ⟨e1, e2⟩ | ⟨t, ht, et, -, h8, e1, e2⟩
    · exact Or.inl ⟨e1, e2⟩
    · have hTt : T = t := (nI_eq (by omega) (by omega)).mp et
      subst hTt
      refine Or.inr ⟨ht, e1, h8, ?_, ?_, ?_, ?_, fun u hu => ?_⟩
      · rw [e2]; exact mBm_o 1 (by omega)
      · rw [e2]; exact mBm_o 2 (by omega)
      · rw [e2]; exact mBm_o 22 (by omega)
      · rw [e2]
        unfold nB
        rw [mBm_8, if_pos rfl]
        exact nI_clamp (by have : nB M T < 8 := h8; unfold nB at this; omega)
      · rw [e2]
        unfold nB
        rw [mBm_8, if_neg hu]
  rw [if_neg a3]
  by_cases a4 : K = 5 ∨ K = 6
  · rw [if_pos a4]
    exact ⟨_, _, rfl, inv_points h _ _ _, acP_s (sm_points hT.1 _ _ _) (by omega) (by omega)⟩
  rw [if_neg a4]
  by_cases a5 : K = 7 ∨ K = 8
  · rw [if_pos a5]
    have fin : ∀ y15 p q r : Int32, ∃ d M1, (st (N_modes M (nI T) p y15 q r) fun M17 => (some (A_modes M (nI T) p y15 q r, M17) : Option (Int32 × zMs))) = some (d, M1) ∧ INV M1 ∧ acP M M1 K T (X / 32 % 101) d := fun y15 p q r => ⟨_, _, rfl, inv_modes h _ _ _ _ _, acP_s (sm_modes hT.1 _ _ _ _ _) (by omega) (by omega)⟩
    rw [st_s]
    split
    · exact fin _ _ _ _
    · rw [st_s]
      split
      · exact fin _ _ _ _
      · rename_i e7
        rw [gd_t e7]
        exact fin _ _ _ _
  rw [if_neg a5]
  by_cases a6 : K = 9 ∨ K = 10 ∨ K = 11
  · rw [if_pos a6]
    refine ⟨_, _, rfl, inv_stick h _ _, ?_⟩
    unfold acP
    rw [if_neg a2, if_neg (by omega), if_pos (by omega)]
    rcases cs_stick hT.1 (nI T) x10 with ⟨e1, e2⟩ | ⟨t, b, -, -, h60, e1, e2⟩
    · exact Or.inl ⟨e1, e2⟩
    · refine Or.inr ⟨e1, h60, ?_, ?_, ?_, ?_⟩
      · rw [e2]
        show (pM _ 22 0 (nI (nS M + 1)) 22 0).toNatClampNeg = nS M + 1
        rw [pM_s]
        exact nI_clamp (by omega)
      · rw [e2, pMn (by decide), pMn (by decide), pMn (by decide)]
      · rw [e2, pMn (by decide), pMn (by decide), pMn (by decide)]
      · rw [e2, pMn (by decide), pMn (by decide), pMn (by decide)]
  rw [if_neg a6]
  by_cases a7 : K = 12 ∨ K = 13 ∨ K = 14 ∨ K = 15
  · rw [if_pos a7]
    exact ⟨_, _, rfl, inv_coin h _, acP_s (sm_coin hT.1 _) (by omega) (by omega)⟩
  rw [if_neg a7]
  by_cases a8 : K = 16
  · rw [if_pos a8]
    exact ⟨_, _, rfl, inv_rob h _ _, acP_s (sm_rob hT.1 _ _) (by omega) (by omega)⟩
  rw [if_neg a8]
  by_cases a9 : K = 17 ∨ K = 18
  · rw [if_pos a9]
    exact ⟨_, _, rfl, inv_load h _ _ _, acP_s (sm_load _ _ _) (by omega) (by omega)⟩
  rw [if_neg a9, if_pos (by omega)]
  exact ⟨_, _, rfl, (ig_go h _).1, acP_s (ig_go h _).2 (by omega) (by omega)⟩
/-- the table of an act -/
def tbl (M : zMs) (X : Nat) : Nat := if nT M = 0 then 0 else X / 32 % nT M
theorem act_c (h : INV M) (hX : X < 2 ^ 31) (hTt : t = tbl M X) : ∃ d M1, actC M I (nI X) (nI (X / 32)) (nI t) = some (d, M1) ∧ INV M1 ∧ acP M M1 (X % 32) (tbl M X) (X / 32 % 101) d := by
  obtain ⟨S, hT⟩ := h.1
  have hT6 := nT6 hT.1
  have hT0 : nT M = 0 ∨ t < nT M := by
    rw [hTt]
    unfold tbl
    by_cases e : nT M = 0
    · exact Or.inl e
    · rw [if_neg e]; exact Or.inr (Nat.mod_lt _ (by omega))
  have hTs : t < 6 := by
    rw [hTt]
    unfold tbl
    by_cases e : nT M = 0
    · rw [if_pos e]; omega
    · rw [if_neg e]
      have := Nat.mod_lt (X / 32) (show 0 < nT M by omega)
      omega
  have f10 : ∀ x7 x10 : Int32, ∃ d M1, actB M (nI X) (nI (X / 32)) (nI t) x7 x10 = some (d, M1) ∧ INV M1 ∧ acP M M1 (X % 32) (tbl M X) (X / 32 % 101) d := fun x7 x10 => by rw [← hTt]; exact act_b h hX hT0 x7 x10
  have f7 : ∀ x7 : Int32, ∃ d M1, actD M (nI X) (nI (X / 32)) (nI t) x7 = some (d, M1) ∧ INV M1 ∧ acP M M1 (X % 32) (tbl M X) (X / 32 % 101) d := fun x7 => by
    by_cases e : x7 = 0
    · obtain ⟨d, M1, q, r⟩ := f10 x7 0
      exact ⟨d, M1, st_j (st_j (if_t e q)), r⟩
    · obtain ⟨d, M1, q, r⟩ := f10 x7 ((nI (X / 32) / (8 : Int32)) - (nI (X / 32) / (8 : Int32)) / x7 * x7)
      exact ⟨d, M1, st_j (st_j (if_f e (gd_of e q))), r⟩
  by_cases e : M 1 0 = 0
  · obtain ⟨d, M1, q, r⟩ := f7 0
    exact ⟨d, M1, st_j (st_j (if_t e q)), r⟩
  · obtain ⟨d, M1, q, r⟩ := f7 (I (nI t).toNatClampNeg)
    exact ⟨d, M1, st_j (st_j (if_f e (gd_of (show ¬ (nI t < 0 ∨ 14 ≤ (nI t).toNatClampNeg) from fun q => q.elim (nI_pos (by omega)) (by rw [nI_clamp (by omega)]; omega)) q))), r⟩
theorem act_ok (h : INV M) (hX : X < 2 ^ 31) : ∃ d M1, fL_act M I (nI X) = some (d, M1) ∧ INV M1 ∧ acP M M1 (X % 32) (tbl M X) (X / 32 % 101) d := by
  obtain ⟨S, hT⟩ := h.1
  have hT6 := nT6 hT.1
  have hE := nT_e hT.1
  by_cases e : nT M = 0
  · obtain ⟨d, M1, q, r⟩ := act_c (I := I) h hX (show 0 = tbl M X by unfold tbl; rw [if_pos e])
    rw [nI_0] at q
    refine ⟨d, M1, ?_, r⟩
    unfold fL_act
    exact st_v (dv_32 hX) (st_j (if_t (show M 1 0 = 0 by rw [hE, e]; exact nI_0) q))
  · have e1 : ¬ M 1 0 = 0 := by rw [hE]; exact nI_ne0 (by omega) (by omega)
    have em : nI (X / 32) - nI (X / 32) / (M 1 0) * (M 1 0) = nI (X / 32 % nT M) := by rw [hE]; exact pk_rem (by omega) (by omega) (by omega)
    obtain ⟨d, M1, q, r⟩ := act_c (I := I) h hX (show X / 32 % nT M = tbl M X by unfold tbl; rw [if_neg e])
    rw [← em] at q
    refine ⟨d, M1, ?_, r⟩
    unfold fL_act
    exact st_v (dv_32 hX) (st_j (if_f e1 (gd_of e1 q)))
end PAC
