/-! WHAT THE LAW CALLS REFUSES: it answers 1 and leaves the rows -/
theorem st_if {β : Type} {c : Prop} [Decidable c] {a b : Int32} {J : Int32 → Option β} {r : Option β} (h : ∀ y : Int32, (c ∧ y = a) ∨ (¬ c ∧ y = b) → J y = r) : st J (fun j => if c then j a else j b) = r := by
  show (if c then J a else J b) = r
  by_cases hc : c
  · rw [if_pos hc]; exact h a (Or.inl ⟨hc, rfl⟩)
  · rw [if_neg hc]; exact h b (Or.inr ⟨hc, rfl⟩)
theorem st_c {α β : Type} {J : α → Option β} {k : (α → Option β) → Option β} {a : α} {r : Option β} (hk : ∀ j : α → Option β, j a = r → k j = r) (hJ : J a = r) : st J k = r := hk J hJ
theorem st_c2 {α γ β : Type} {J : α → γ → Option β} {k : (α → γ → Option β) → Option β} {a : α} {b : γ} {r : Option β} (hk : ∀ j : α → γ → Option β, j a b = r → k j = r) (hJ : J a b = r) : st J k = r := hk J hJ
theorem lg_same (a : Int64) : lg_cmp a a = 0 := by unfold lg_cmp; simp
section RF
variable {S : zSt} {M : zMs} {I : Nat → Int32} {t b g v k X : Nat}
theorem rA_plannedL (h : Tie S M) (hv : v < 2) (hk : k < 2 ^ 31) (h6 : 6 ≤ k) : A_planned M (nI v) (nI k) = (-2000000001) := by
  obtain ⟨M1, e10, p7, p2⟩ := mkp h hv
  exact (an_f (so_plannedL hv e10 p7 (gap6 h.1) p2 hk (by have := gap6 h.1; omega)) i1n).trans (by decide)
theorem ng_lt1 {n : Nat} (hn : n < 2 ^ 29) : -nI n < 1 := by
  by_cases h0 : n = 0
  · subst h0; decide
  · exact lt0_lt (a := 1) (ng_0 hn (by omega)) (by omega)
theorem ar_101 : arBm 0 0 101 0 := by unfold arBm inR; decide
theorem ar_000 : arSh 0 0 0 := by unfold arSh inR; decide
theorem fi_102 : fiSm (-1) 102 0 := by unfold fiSm inR; decide
theorem ng_c {c d n : Nat} (hc : c < 2 ^ 29) (hd : d < 2 ^ 29) (hn : n < 2 ^ 29) (h0 : d < c) {C D : Int32} (hC : C = nI 0 - nI c) (hD : D = nI 0 - nI d) : C - nI n < D := by
  have h1 : (nI 0 - nI c).toInt = (0 : Nat) - (c : Int) := pk_sub_toInt (by omega) (by omega)
  have h3 : (nI 0 - nI d).toInt = (0 : Nat) - (d : Int) := pk_sub_toInt (by omega) (by omega)
  have h2 : (nI n).toInt = (n : Int) := nI_toInt (by omega)
  rw [Int32.lt_iff_toInt_lt, Int32.toInt_sub, hC, hD, h1, h2, h3, Int.bmod_eq_of_le (by omega) (by omega)]
  omega
theorem dv_neg {x : Int32} (h : x < -99) : x / 100 < 1 := by
  have h1 := Int32.lt_iff_toInt_lt.mp h
  have h2 : (-99 : Int32).toInt = -99 := by decide
  have h3 : (100 : Int32).toInt = 100 := by decide
  have h4 : (1 : Int32).toInt = 1 := by decide
  have h5 := Int32.minValue_le_toInt x
  rw [Int32.lt_iff_toInt_lt, Int32.toInt_div_of_ne_right x 100 (by decide), h3, h4]
  obtain ⟨n, hn⟩ : ∃ n : Nat, x.toInt = -(n : Int) := ⟨x.toInt.natAbs, by omega⟩
  have hz : (0 : Int) ≤ (n : Int).tdiv 100 := Int.tdiv_nonneg (by omega) (by omega)
  have : x.toInt.tdiv 100 ≤ 0 := by
    rw [hn, Int.neg_tdiv]
    omega
  omega
def bRfl (x18 : Int32) (x19 : Int32) : (Int32 × Int32 × zMs) → Option ((Int32 × Int32 × zMs) ⊕ (Int32 × zMs)) := fun (q32 : (Int32 × Int32 × zMs)) =>
if x19 ≤ q32.2.1 then
gd (q32.1 = 0 ∨ q32.1 = 1) (some (.inr ((q32.1, q32.2.2))))
else
if q32.1 = 0 then
gd (q32.1 = 0 ∨ q32.1 = 1) (some (.inr ((q32.1, q32.2.2))))
else
st (fun (y40 : Int32) (M41 : zMs) => (st y40 fun x43 =>
st (q32.2.1 + (1 : Int32)) fun x44 =>
some (.inl (x43, x44, M41)) : Option ((Int32 × Int32 × zMs) ⊕ (Int32 × zMs)))) fun j42 =>
st (fun (M45 : zMs) => (j42 (1 : Int32) M45 : Option ((Int32 × Int32 × zMs) ⊕ (Int32 × zMs)))) fun j46 =>
if (A_sticks q32.2.2 x18 q32.2.1) = 0 then
j46 q32.2.2
else
st (N_stick q32.2.2 x18 q32.2.1) fun M47 =>
if (A_stick q32.2.2 x18 q32.2.1) = (-2000000003 : Int32) then
j46 M47
else
j42 (0 : Int32) M47
theorem rf_loop (h : WM M) (ht : t < nT M) : lp (bRfl (nI t) (nI (nB M t))) 9 (1, 0, M) = some (1, M) := by
  have h6 := nT6 h
  have h8 := nB8 h (t := t) (by omega)
  refine lp_up (fun k => ((1 : Int32), nI k, M)) (nB M t) (by omega) ?_ (fun k hk => ?_) ?_
  · show _ = (_, nI 0, _)
    rw [nI_0]
  · unfold bRfl
    refine if_f (nI_ge hk (by omega)) ?_
    refine if_f i10 ?_
    refine st_c2 (a := 1) (b := M) (fun j hj => ?_) ?_
    · refine st_j ?_
      have e1 := vA_sticks h ht hk
      by_cases e : M 16 (8 * t + k) = -1
      · rw [if_pos e] at e1
        exact if_t e1 hj
      · rw [if_neg e] at e1
        refine if_f (by rw [e1]; decide) ?_
        have f := rf_stick2 h ht hk (Or.inl e)
        refine st_v f.2 ?_
        exact if_t f.1 hj
    · refine st_j ?_
      refine st_v (nI_1 k) ?_
      rfl
  · unfold bRfl
    refine if_t (Int32.le_refl _) ?_
    exact gd_of (Or.inr rfl) rfl
set_option maxHeartbeats 4000000 in
set_option maxRecDepth 100000 in
theorem refuses_ok (h : Tie S M) (hI : ∀ t, t < 6 → I t = nI (nB M t)) (hbx : ∀ t, t < nT M → ∃ n, n < 2 ^ 20 ∧ M 4 t = nI n)
    (hHi : ∀ t p, t < nT M → 40 ≤ p → p < 2 ^ 31 → A_high M (nI t) (nI p) = -1)
    (hPl : ∀ v, v < 2 → 0 ≤ A_planned M (nI v) 0 ∨ (A_go M (nI v) = -2000000003 ∧ N_go M (nI v) = M ∧ A_way M (nI v) = 0)) (hX : X < 9973) : fL_refuses M I (nI X) = some (1, M) := by
  have hW := h.1
  have h6 := nT6 hW
  have hG4 := nG40 hW
  have hX1 : X < 2 ^ 31 := by omega
  have hv2 : X % 2 < 2 := Nat.mod_lt _ (by omega)
  have a101 : (101 : Int32) + nI X = nI (101 + X) := nI_add 101 X
  have a10 : (10 : Int32) + nI X = nI (10 + X) := nI_add 10 X
  have a160 : (160 : Int32) + nI X = nI (160 + X) := nI_add 160 X
  have a240 : (240 : Int32) + nI X = nI (240 + X) := nI_add 240 X
  have a6200 : (6200 : Int32) + nI X = nI (6200 + X) := nI_add 6200 X
  have a21 : (21 : Int32) + nI X = nI (21 + X) := nI_add 21 X
  have a4 : (4 : Int32) + nI X = nI (4 + X) := nI_add 4 X
  have a5001 : (5001 : Int32) + nI X = nI (5001 + X) := nI_add 5001 X
  have a31 : (31 : Int32) + nI X = nI (31 + X) := nI_add 31 X
  have a40 : (40 : Int32) + nI X = nI (40 + X) := nI_add 40 X
  have a2 : (2 : Int32) + nI X = nI (2 + X) := nI_add 2 X
  have a6 : (6 : Int32) + nI X = nI (6 + X) := nI_add 6 X
  unfold fL_refuses
  refine st_if (fun y1 hy1 => ?_)
  refine st_j ?_
  refine st_if (fun y2 hy2 => ?_)
  refine st_j ?_
  have hT : y2 < 0 ∨ nI (nT M) ≤ y2 := by
    rcases hy2 with ⟨-, q⟩ | ⟨-, q⟩
    · exact Or.inr (by rw [q, nT_e hW, rm_50 hX1, nI_add]; exact nI_le (by omega) (by omega))
    · exact Or.inl (by rw [q, rm_50 hX1]; exact ng_1 (by omega))
  refine st_if (fun y3 hy3 => ?_)
  refine st_j ?_
  have hG : y3 < 0 ∨ nI (nG M) ≤ y3 := by
    rcases hy3 with ⟨-, q⟩ | ⟨-, q⟩
    · exact Or.inr (by rw [q, nG_e hW, rm_50 hX1, nI_add]; exact nI_le (by omega) (by omega))
    · exact Or.inl (by rw [q, rm_50 hX1]; exact ng_1 (by omega))
  refine st_if (fun y4 hy4 => ?_)
  refine st_j ?_
  have hV : y4 < 0 ∨ 1 < y4 := by
    rcases hy4 with ⟨-, q⟩ | ⟨-, q⟩
    · exact Or.inr (by rw [q, rm_50 hX1, c2I, nI_add]; exact nI_lt (a := 1) (by omega) (by omega))
    · exact Or.inl (by rw [q, rm_50 hX1]; exact ng_1 (by omega))
  have f1 : A_tables M ((101 : Int32) + nI X) 1 = -2000000002 ∧ N_tables M ((101 : Int32) + nI X) 1 = M := rf_tables1 (fun q => by rw [a101] at q; exact inR_hi (b := 100) (by omega) (by omega) (by decide) q.1)
  have f2 : A_tables M (nI X - nI X / 101 * 101) ((10 : Int32) + nI X) = -2000000002 ∧ N_tables M (nI X - nI X / 101 * 101) ((10 : Int32) + nI X) = M := rf_tables1 (fun q => by rw [a10] at q; exact inR_hi (b := 9) (by omega) (by omega) (by decide) q.2)
  have f3 : A_tables M ((-1 : Int32) - nI X) 1 = -2000000002 ∧ N_tables M ((-1 : Int32) - nI X) 1 = M := rf_tables1 (fun q => inR_lo (ng_1 (by omega)) q.1)
  have f4 : A_tables M (nI X - nI X / 101 * 101) (-nI X) = -2000000002 ∧ N_tables M (nI X - nI X / 101 * 101) (-nI X) = M := rf_tables1 (fun q => inR_lo (ng_lt1 (by omega)) q.2)
  have f5 : A_bumpers M y2 999 0 101 0 = -2000000001 ∧ N_bumpers M y2 999 0 101 0 = M := rf_bumpers1 hW hT
  have f6 : A_points M y2 0 9999 = -2000000001 ∧ N_points M y2 0 9999 = M := rf_points1 (isSwitch_outT hW hT 0)
  have f7 : A_modes M y2 0 (-5) 0 0 = -2000000001 ∧ N_modes M y2 0 (-5) 0 0 = M := rf_modes1 hW (Or.inl hT)
  have f8 : A_stick M y2 0 = -2000000001 ∧ N_stick M y2 0 = M := rf_stick1 (isSwitch_outT hW hT 0)
  have f9 : A_sticks M y2 0 = -2000000001 := rA_sticks (isSwitch_outT hW hT 0)
  have f10 : A_wear M y2 0 = -2000000001 := rA_wear (isSwitch_outT hW hT 0)
  have f11 : A_coin M y2 = -2000000001 ∧ N_coin M y2 = M := rf_coin1 hW hT
  have f12 : A_shoot M y2 999 0 0 = -2000000001 ∧ N_shoot M y2 999 0 0 = M := rf_shoot1 hW hT
  have f13 : A_gameAt M y2 = -2000000001 := rA_gameAt hW hT
  have f14 : A_balls M y3 = -2000000001 := rA_balls hW hG
  have f15 : A_stack M y3 = -2000000001 := rA_stack hW hG
  have f16 : A_score M y3 = -2000000001 := rA_score hW hG
  have f17 : A_byLog M y3 = -2000000001 := rA_byLog hW hG
  have f18 : A_valid M y3 = -2000000001 := rA_valid hW hG
  have f19 : A_logged M y3 = -2000000001 := rA_logged hW hG
  have f20 : lg_cmp (A_entry M y3 0) (-2000000001) = 0 := by rw [rA_entryG hW hG]; exact lg_same _
  have f21 : A_twin M y3 = -2000000001 := rA_twin hW hG
  have f22 : A_high M y2 (-1) = -2000000001 := rA_high1 hW hT
  have f23 : A_rob M y2 0 = -2000000001 ∧ N_rob M y2 0 = M := rf_rob1 hW hT
  have f24 : A_box M y2 = -2000000001 := rA_box hW hT
  have f25 : A_missing M y2 = -2000000001 := rA_missing hW hT
  have f26 : A_load M y4 5 0 = -2000000001 ∧ N_load M y4 5 0 = M := rf_load1 hV
  have f27 : A_load M (nI X - nI X / 2 * 2) ((2 : Int32) + nI X) 1 = -2000000002 ∧ N_load M (nI X - nI X / 2 * 2) ((2 : Int32) + nI X) 1 = M := by rw [rm_2 hX1, a2]; exact rf_load2 hv2 (fun q => inR_hi (b := 1) (by omega) (by omega) (by decide) q.1)
  have f28 : A_load M (nI X - nI X / 2 * 2) ((-1 : Int32) - nI X) 1 = -2000000002 ∧ N_load M (nI X - nI X / 2 * 2) ((-1 : Int32) - nI X) 1 = M := by rw [rm_2 hX1]; exact rf_load2 hv2 (fun q => inR_lo (ng_1 (by omega)) q.1)
  have f29 : A_load M (nI X - nI X / 2 * 2) (nI X - nI X / 2 * 2) ((21 : Int32) + nI X) = -2000000002 ∧ N_load M (nI X - nI X / 2 * 2) (nI X - nI X / 2 * 2) ((21 : Int32) + nI X) = M := by rw [rm_2 hX1, a21]; exact rf_load2 hv2 (fun q => inR_hi (b := 20) (by omega) (by omega) (by decide) q.2)
  have f30 : A_load M (nI X - nI X / 2 * 2) (nI X - nI X / 2 * 2) (-nI X) = -2000000002 ∧ N_load M (nI X - nI X / 2 * 2) (nI X - nI X / 2 * 2) (-nI X) = M := by rw [rm_2 hX1]; exact rf_load2 hv2 (fun q => inR_lo (ng_lt1 (by omega)) q.2)
  have f31 : A_parts M y4 0 = -2000000001 := rA_parts1 hV
  have f32 : A_parts M (nI X - nI X / 2 * 2) ((2 : Int32) + nI X) = -2000000002 := by rw [rm_2 hX1, a2]; exact rA_parts2 hv2 (inR_hi (b := 1) (by omega) (by omega) (by decide))
  have f33 : A_wanted M ((-1 : Int32) - nI X) = -2000000002 := rA_wanted (inR_lo (ng_1 (by omega)))
  have f34 : A_wanted M ((2 : Int32) + nI X) = -2000000002 := by rw [a2]; exact rA_wanted (inR_hi (b := 1) (by omega) (by omega) (by decide))
  have f35 : A_way M y4 = -2000000001 := rA_way hV
  have f36 : A_planned M y4 0 = -2000000001 := rA_plannedV hV
  have f37 : A_planned M (nI X - nI X / 2 * 2) ((6 : Int32) + nI X) = -2000000001 := by rw [rm_2 hX1, a6]; exact rA_plannedL h hv2 (by omega) (by omega)
  have f38 : A_planned M (nI X - nI X / 2 * 2) ((-1 : Int32) - nI X) = -2000000001 := by rw [rm_2 hX1]; exact rA_plannedN hv2 (ng_1 (by omega))
  have f39 : A_go M y4 = -2000000001 ∧ N_go M y4 = M := rf_go1 hV
  have f40 : A_vanAt M y4 = -2000000001 := rA_vanAt hV
  refine st_v f1.2 ?_
  refine st_j ?_
  refine st_j ?_
  refine if_t f1.1 ?_
  refine st_v f2.2 ?_
  refine if_t f2.1 ?_
  refine st_v f3.2 ?_
  refine if_t f3.1 ?_
  refine st_v f4.2 ?_
  refine if_t f4.1 ?_
  refine st_v f5.2 ?_
  refine if_t f5.1 ?_
  refine st_v f6.2 ?_
  refine if_t f6.1 ?_
  refine st_v f7.2 ?_
  refine if_t f7.1 ?_
  refine st_v f8.2 ?_
  refine if_t f8.1 ?_
  refine if_t f9 ?_
  refine if_t f10 ?_
  refine st_v f11.2 ?_
  refine if_t f11.1 ?_
  refine st_v f12.2 ?_
  refine if_t f12.1 ?_
  refine if_t f13 ?_
  refine if_t f14 ?_
  refine if_t f15 ?_
  refine if_t f16 ?_
  refine if_t f17 ?_
  refine if_t f18 ?_
  refine if_t f19 ?_
  refine if_t f20 ?_
  refine if_t f21 ?_
  refine if_t f22 ?_
  refine st_v f23.2 ?_
  refine if_t f23.1 ?_
  refine if_t f24 ?_
  refine if_t f25 ?_
  refine st_v f26.2 ?_
  refine if_t f26.1 ?_
  refine st_v f27.2 ?_
  refine if_t f27.1 ?_
  refine st_v f28.2 ?_
  refine if_t f28.1 ?_
  refine st_v f29.2 ?_
  refine if_t f29.1 ?_
  refine st_v f30.2 ?_
  refine if_t f30.1 ?_
  refine if_t f31 ?_
  refine if_t f32 ?_
  refine if_t f33 ?_
  refine if_t f34 ?_
  refine if_t f35 ?_
  refine if_t f36 ?_
  refine if_t f37 ?_
  refine if_t f38 ?_
  refine st_v f39.2 ?_
  refine if_t f39.1 ?_
  refine if_t f40 ?_
  refine st_c (a := M) (fun j hj => ?_) ?_
  · by_cases hq : M 1 0 < 6
    · exact if_t hq hj
    · refine if_f hq ?_
      have e6 : nT M = 6 := by
        rw [nT_e hW, c6I, nI_ltI (by omega) (by omega)] at hq
        omega
      have f := rf_tables2 (i := 0) (j := 1) hW (by unfold inR; decide) (by unfold inR; decide) e6
      refine st_v f.2 ?_
      exact if_t f.1 hj
  refine st_c (a := M) (fun j hj => ?_) ?_
  · rw [rm_2 hX1]
    by_cases hq : 0 ≤ A_planned M (nI (X % 2)) 0
    · exact if_t hq hj
    · refine if_f hq ?_
      obtain ⟨g1, g2, g3⟩ := (hPl (X % 2) hv2).resolve_left hq
      refine st_v g2 ?_
      refine if_t g1 ?_
      exact if_t g3 hj
  refine st_c (a := M) (fun j hj => ?_) ?_
  · rw [rm_2 hX1]
    by_cases hq : A_parts M (nI (X % 2)) 0 < 1
    · exact if_t hq hj
    · refine if_f hq ?_
      obtain ⟨n, hn, e50⟩ := spare_n hW (i := 2 * (X % 2) + 0) (by omega)
      have e0 : A_parts M (nI (X % 2)) 0 = nI n := (vA_parts (k := 0) hv2 (by omega)).trans e50
      have f := rf_load3 (M := M) (k := 0) (x := 20) hv2 (by omega) (by unfold inR; decide) (by
        rw [e0] at hq
        rw [e50, c20I, nI_add]
        exact nI_lt (by
          have : ¬ n < 1 := fun q => hq (nI_lt (b := 1) q (by omega))
          omega) (by omega))
      refine st_v f.2 ?_
      exact if_t f.1 hj
  refine st_j ?_
  refine if_f i10 ?_
  by_cases hT0 : nT M = 0
  · refine if_t (by rw [nT_e hW, hT0]; exact Int32.le_refl _) ?_
    exact gd_of (Or.inr rfl) rfl
  have hTp : 0 < nT M := by omega
  refine if_f (by rw [nT_e hW]; exact nI_nle hTp (by omega)) ?_
  refine gd_of (by rw [nT_e hW]; exact nI_ne0 hTp (by omega)) ?_
  obtain ⟨t, et⟩ : ∃ t, t = X / 2 % nT M := ⟨_, rfl⟩
  have ht : t < nT M := by rw [et]; exact Nat.mod_lt _ hTp
  have hB8 := nB8 hW (t := t) (by omega)
  refine st_v (v1 := nI t) (by rw [dv_2 hX1, nT_e hW, pk_rem (by omega) hTp (by omega), ← et]) ?_
  refine gd_of (nI_in (by omega) (by omega)) ?_
  refine st_v (v1 := nI (nB M t)) (by rw [nI_clamp (by omega)]; exact hI t (by omega)) ?_
  refine st_if (fun y5 hy5 => ?_)
  refine st_j ?_
  have hSw : fX10_isSwitch M (nI t) y5 = some 0 := isSwitch_out hW ht (by
    rcases hy5 with ⟨-, q⟩ | ⟨-, q⟩
    · exact Or.inr (by rw [q, rm_50 hX1, nI_add]; exact nI_le (by omega) (by omega))
    · exact Or.inl (by rw [q, rm_50 hX1]; exact ng_1 (by omega)))
  have h4 : inR (nI (X % 4)) 0 3 := inR_n (a := 0) (b := 3) (by omega) (by omega) (by omega) (by decide) (by decide)
  obtain ⟨bx, hbx1, hbx2⟩ := hbx t ht
  have eB : A_box M (nI t) = nI bx := (vA_box hW ht).trans hbx2
  have g1 : A_bumpers M (nI t) ((160 : Int32) + nI X) 0 101 0 = -2000000002 ∧ N_bumpers M (nI t) ((160 : Int32) + nI X) 0 101 0 = M := rf_bumpers2 hW ht (fun q => by rw [a160] at q; exact inR_hi (b := 159) (by omega) (by omega) (by decide) q.1)
  have g2 : A_bumpers M (nI t) 0 ((240 : Int32) + nI X) 101 0 = -2000000002 ∧ N_bumpers M (nI t) 0 ((240 : Int32) + nI X) 101 0 = M := rf_bumpers2 hW ht (fun q => by rw [a240] at q; exact inR_hi (b := 239) (by omega) (by omega) (by decide) q.2.1)
  have g3 : A_bumpers M (nI t) 0 0 ((6200 : Int32) + nI X) 0 = -2000000002 ∧ N_bumpers M (nI t) 0 0 ((6200 : Int32) + nI X) 0 = M := rf_bumpers2 hW ht (fun q => by unfold arBm at q; rw [a6200, c100I, pk_div (by omega) (by omega) (by omega)] at q; exact inR_hi (b := 60) (by omega) (by omega) (by decide) q.2.2.1)
  have g4 : A_bumpers M (nI t) 0 0 ((-101 : Int32) - nI X) 0 = -2000000002 ∧ N_bumpers M (nI t) 0 0 ((-101 : Int32) - nI X) 0 = M := rf_bumpers2 hW ht (fun q => inR_lo (dv_neg (ng_c (c := 101) (d := 99) (by omega) (by omega) (by omega) (by omega) (by decide) (by decide))) q.2.2.1)
  have g5 : A_bumpers M (nI t) 0 0 101 ((21 : Int32) + nI X) = -2000000002 ∧ N_bumpers M (nI t) 0 0 101 ((21 : Int32) + nI X) = M := rf_bumpers2 hW ht (fun q => by rw [a21] at q; exact inR_hi (b := 20) (by omega) (by omega) (by decide) q.2.2.2.2)
  have g6 : A_points M (nI t) y5 5 = -2000000001 ∧ N_points M (nI t) y5 5 = M := rf_points1 hSw
  have g7 : A_modes M (nI t) ((4 : Int32) + nI X) (-1) 102 0 = -2000000001 ∧ N_modes M (nI t) ((4 : Int32) + nI X) (-1) 102 0 = M := rf_modes1 hW (Or.inr ⟨t, ht, rfl, fun q => by rw [a4] at q; exact inR_hi (b := 3) (by omega) (by omega) (by decide) q.1⟩)
  have g8 : A_modes M (nI t) (nI X - nI X / 4 * 4) ((10 : Int32) * nI (nB M t)) 102 0 = -2000000001 ∧ N_modes M (nI t) (nI X - nI X / 4 * 4) ((10 : Int32) * nI (nB M t)) 102 0 = M := by
    rw [rm_4 hX1, c10I, pk_mul]
    refine rf_modes1 hW (Or.inr ⟨t, ht, rfl, fun q => ?_⟩)
    rcases q.2 with q | ⟨⟨k1, hk1, q⟩, -⟩
    · exact nI_pos (by omega) q
    · rw [c10I, pk_div (by omega) (by omega) (by omega), nI_eq (by omega) (by omega)] at q
      omega
  have g9 : A_modes M (nI t) (nI X - nI X / 4 * 4) ((-2 : Int32) - nI X) 102 0 = -2000000002 ∧ N_modes M (nI t) (nI X - nI X / 4 * 4) ((-2 : Int32) - nI X) 102 0 = M := by rw [rm_4 hX1]; exact rf_modes2 hW ht ⟨h4, Or.inl (ng_sub (c := 2) (by omega) (by omega) (by omega) (by decide))⟩ (fun q => q.1 (ng_c (c := 2) (d := 1) (by omega) (by omega) (by omega) (by omega) (by decide) (by decide)))
  have g10 : A_modes M (nI t) (nI X - nI X / 4 * 4) (-1) ((-102 : Int32) - nI X) 0 = -2000000002 ∧ N_modes M (nI t) (nI X - nI X / 4 * 4) (-1) ((-102 : Int32) - nI X) 0 = M := by rw [rm_4 hX1]; exact rf_modes2 hW ht ⟨h4, Or.inl (by decide)⟩ (fun q => inR_lo (dv_neg (ng_c (c := 102) (d := 99) (by omega) (by omega) (by omega) (by omega) (by decide) (by decide))) q.2.1)
  have g11 : A_modes M (nI t) (nI X - nI X / 4 * 4) (-1) 102 ((5001 : Int32) + nI X) = -2000000002 ∧ N_modes M (nI t) (nI X - nI X / 4 * 4) (-1) 102 ((5001 : Int32) + nI X) = M := by rw [rm_4 hX1, a5001]; exact rf_modes2 hW ht ⟨h4, Or.inl (by decide)⟩ (fun q => inR_hi (b := 5000) (by omega) (by omega) (by decide) q.2.2.2)
  have g12 : A_stick M (nI t) y5 = -2000000001 ∧ N_stick M (nI t) y5 = M := rf_stick1 hSw
  have g13 : A_sticks M (nI t) y5 = -2000000001 := rA_sticks hSw
  have g14 : A_wear M (nI t) y5 = -2000000001 := rA_wear hSw
  have g15 : A_shoot M (nI t) ((160 : Int32) + nI X) 0 0 = -2000000002 ∧ N_shoot M (nI t) ((160 : Int32) + nI X) 0 0 = M := rf_shoot2 hW ht (fun q => by rw [a160] at q; exact inR_hi (b := 159) (by omega) (by omega) (by decide) q.1)
  have g16 : A_shoot M (nI t) 0 ((-31 : Int32) - nI X) 0 = -2000000002 ∧ N_shoot M (nI t) 0 ((-31 : Int32) - nI X) 0 = M := rf_shoot2 hW ht (fun q => inR_lo (ng_c (c := 31) (d := 30) (by omega) (by omega) (by omega) (by omega) (by decide) (by decide)) q.2.1)
  have g17 : A_shoot M (nI t) 0 0 ((31 : Int32) + nI X) = -2000000002 ∧ N_shoot M (nI t) 0 0 ((31 : Int32) + nI X) = M := rf_shoot2 hW ht (fun q => by rw [a31] at q; exact inR_hi (b := 30) (by omega) (by omega) (by decide) q.2.2)
  have g18 : A_high M (nI t) ((-1 : Int32) - nI X) = -2000000002 := rA_high2 hW ht (ng_1 (by omega))
  have g19 : A_high M (nI t) ((40 : Int32) + nI X) = -1 := by rw [a40]; exact hHi t _ ht (by omega) (by omega)
  have g20 : A_rob M (nI t) ((101 : Int32) + nI X) = -2000000002 ∧ N_rob M (nI t) ((101 : Int32) + nI X) = M := by rw [a101]; exact rf_rob2 hW ht (inR_hi (b := 100) (by omega) (by omega) (by decide))
  have g21 : A_rob M (nI t) (-nI X) = -2000000002 ∧ N_rob M (nI t) (-nI X) = M := rf_rob2 hW ht (inR_lo (ng_lt1 (by omega)))
  refine st_v g1.2 ?_
  refine st_j ?_
  refine st_j ?_
  refine if_t g1.1 ?_
  refine st_v g2.2 ?_
  refine if_t g2.1 ?_
  refine st_v g3.2 ?_
  refine if_t g3.1 ?_
  refine st_v g4.2 ?_
  refine if_t g4.1 ?_
  refine st_v g5.2 ?_
  refine if_t g5.1 ?_
  refine st_v g6.2 ?_
  refine if_t g6.1 ?_
  refine st_v g7.2 ?_
  refine if_t g7.1 ?_
  refine st_v g8.2 ?_
  refine if_t g8.1 ?_
  refine st_v g9.2 ?_
  refine if_t g9.1 ?_
  refine st_v g10.2 ?_
  refine if_t g10.1 ?_
  refine st_v g11.2 ?_
  refine if_t g11.1 ?_
  refine st_v g12.2 ?_
  refine if_t g12.1 ?_
  refine if_t g13 ?_
  refine if_t g14 ?_
  refine st_v g15.2 ?_
  refine if_t g15.1 ?_
  refine st_v g16.2 ?_
  refine if_t g16.1 ?_
  refine st_v g17.2 ?_
  refine if_t g17.1 ?_
  refine if_t g18 ?_
  refine if_t g19 ?_
  refine st_v g20.2 ?_
  refine if_t g20.1 ?_
  refine st_v g21.2 ?_
  refine if_t g21.1 ?_
  refine st_c (a := M) (fun j hj => ?_) ?_
  · by_cases hq : (99 : Int32) < A_box M (nI t)
    · exact if_t hq hj
    · refine if_f hq ?_
      have hb9 : bx ≤ 99 := by
        rw [eB] at hq
        exact Nat.not_lt.mp (fun q => hq (nI_lt (a := 99) q (by omega)))
      have f : A_rob M (nI t) (A_box M (nI t) + 1) = -2000000003 ∧ N_rob M (nI t) (A_box M (nI t) + 1) = M := by
        rw [eB, nI_1]
        refine rf_rob3 hW ht (inR_n (a := 1) (b := 100) (by omega) (by omega) (by omega) (by decide) (by decide)) ?_
        rw [hbx2]
        exact nI_ge (by omega) (by omega)
      refine st_v f.2 ?_
      exact if_t f.1 hj
  refine st_j ?_
  refine st_c2 (a := 1) (b := M) (fun j30 hj => ?_) ?_
  · refine st_j ?_
    refine if_f i10 ?_
    rcases (hW.2.2.2.2.1 t ht).2 with e7 | ⟨g, hg, e7, e25, eL0⟩
    · refine if_t (by rw [vA_gameAt hW ht, e7]; decide) ?_
      refine if_f i10 ?_
      have f1 := rf_shoot3 hW ht ar_000 e7
      refine st_v f1.2 ?_
      refine st_j ?_
      refine st_j ?_
      refine if_t f1.1 ?_
      refine st_c (a := M) (fun j hj2 => ?_) ?_
      · by_cases hq : nI (nB M t) < 8
        · exact if_t hq hj2
        · refine if_f hq ?_
          have e8 : nB M t = 8 := by
            have : ¬ nB M t < 8 := fun q => hq (nI_lt (b := 8) q (by omega))
            omega
          have f2 := rf_bumpers3 hW ht ar_101 (Or.inr e8)
          refine st_v f2.2 ?_
          exact if_t f2.1 hj2
      · refine st_c (a := M) (fun j hj2 => ?_) ?_
        · by_cases hq : M 24 0 < 40
          · exact if_t hq hj2
          · refine if_f hq ?_
            have e40 : nG M = 40 := by
              rw [nG_e hW] at hq
              have : ¬ nG M < 40 := fun q => hq (nI_lt (b := 40) q (by omega))
              omega
            have f2 := rf_coin2 hW ht (Or.inr e40)
            refine st_v f2.2 ?_
            exact if_t f2.1 hj2
        · refine st_j ?_
          exact hj
    · have e7n : ¬ M 7 t = -1 := by rw [e7]; exact of_eq_false (nI_m (by omega))
      refine if_f (by rw [vA_gameAt hW ht, e7]; exact nI_pos (by omega)) ?_
      have f1 := rf_coin2 hW ht (Or.inl e7n)
      refine st_v f1.2 ?_
      refine st_j ?_
      refine st_j ?_
      refine if_t f1.1 ?_
      have f2 := rf_bumpers3 hW ht ar_101 (Or.inl e7n)
      refine st_v f2.2 ?_
      refine if_t f2.1 ?_
      have f3 := rf_modes3 (a2 := 0) (a3 := -1) hW ht ⟨by unfold inR; decide, Or.inl (by decide)⟩ fi_102 e7n
      refine st_v f3.2 ?_
      refine if_t f3.1 ?_
      refine st_c (a := M) (fun j hj2 => ?_) ?_
      · by_cases hq : nI (nB M t) = 0
        · exact if_t hq hj2
        · refine if_f hq ?_
          have hb0 : 0 < nB M t := Nat.pos_of_ne_zero (fun q => hq (by rw [q]; exact nI_0))
          have f4 := rf_points3 (b := 0) (x := 5) hW ht hb0 (by unfold inR; decide) e7n
          rw [nI_0] at f4
          refine st_v f4.2 ?_
          exact if_t f4.1 hj2
      · refine if_t ?_ ?_
        · rw [vA_gameAt hW ht, e7, vA_twin hW hg, if_neg]
          rintro ⟨q, -⟩
          rw [nL_e hW hg] at q
          have hL3 := nL3 hW hg
          exact nI_ne0 eL0 (by omega) q
        · refine st_j ?_
          exact hj
  refine st_j ?_
  exact rf_loop hW ht
end RF
