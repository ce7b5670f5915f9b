/-! planned, go -/
def bW9 (a_1 : Nat) (a_2 : Nat) : (Int32 × zSt) → Option ((Int32 × zSt) ⊕ zSt) := fun (q2 : (Int32 × zSt)) =>
cl (fJ_size q2.2 (a_1 + 2)) fun r9 =>
if r9 ≤ q2.1 then
some (.inr (q2.2))
else
cl (fJ_get q2.2 (a_1 + 2) q2.1) fun r12 =>
st (zI q2.2 (2, a_1, r12) 6) fun x15 =>
st (fun (S16 : zSt) => (st (q2.1 + (1 : Int32)) fun x18 =>
some (.inl (x18, S16)) : Option ((Int32 × zSt) ⊕ zSt))) fun j17 =>
if x15 < 0 then
j17 q2.2
else
if (60 : Int32) ≤ x15 then
j17 q2.2
else
cl2 (fX8_takeSpare q2.2 a_2 (0 : Int32)) fun r20 S22 =>
if r20 = 0 then
j17 S22
else
gd (¬ (x15 < 0 ∨ 60 ≤ x15.toNatClampNeg)) (
st (pI S22 (21, 0, 0) x15.toNatClampNeg (vp_nar .boolean (1 : Int32))) fun S25 =>
st (pI S25 (2, a_1, r12) 6 (-1 : Int32)) fun S26 =>
j17 S26)
def bC9 (a_1 : Nat) (a_2 : Nat) : (Int32 × zSt) → Option ((Int32 × zSt) ⊕ zSt) := fun (q2 : (Int32 × zSt)) =>
cl (fJ_size q2.2 (a_1 + 2)) fun r9 =>
if r9 ≤ q2.1 then
some (.inr (q2.2))
else
cl (fJ_get q2.2 (a_1 + 2) q2.1) fun r12 =>
cl (fX1_isBroken q2.2 a_1 r12) fun r15 =>
st (fun (S18 : zSt) => (st (q2.1 + (1 : Int32)) fun x20 =>
some (.inl (x20, S18)) : Option ((Int32 × zSt) ⊕ zSt))) fun j19 =>
if r15 = 0 then
j19 q2.2
else
cl2 (fX8_takeSpare q2.2 a_2 (1 : Int32)) fun r21 S23 =>
if r21 = 0 then
j19 S23
else
st (pI S23 (2, a_1, r12) 5 (0 : Int32)) fun S25 =>
j19 S25
def bMe (i_1 : Int32) (i_2 : Int32) (i_3 : Int32) : (Int32 × zMs) → Option ((Int32 × zMs) ⊕ zMs) := fun (q2 : (Int32 × zMs)) =>
gd (¬ (i_2 < 0 ∨ 6 ≤ i_2.toNatClampNeg)) (
if (((8 : Int32) * i_2) + (q2.2 8 i_2.toNatClampNeg)) ≤ q2.1 then
some (.inr (q2.2))
else
gd (¬ ((((2 : Int32) * i_1) + i_3) < 0 ∨ 4 ≤ (((2 : Int32) * i_1) + i_3).toNatClampNeg)) (
if (q2.2 50 (((2 : Int32) * i_1) + i_3).toNatClampNeg) ≤ 0 then
some (.inr (q2.2))
else
cl (fX10_isBad q2.2 q2.1 i_3) fun r8 =>
st (fun (S11 : zMs) => (st (q2.1 + (1 : Int32)) fun x13 =>
some (.inl (x13, S11)) : Option ((Int32 × zMs) ⊕ zMs))) fun j12 =>
if r8 = 0 then
j12 q2.2
else
gd (¬ ((((2 : Int32) * i_1) + i_3) < 0 ∨ 4 ≤ (((2 : Int32) * i_1) + i_3).toNatClampNeg)) (
gd (¬ ((((2 : Int32) * i_1) + i_3) < 0 ∨ 4 ≤ (((2 : Int32) * i_1) + i_3).toNatClampNeg)) (
st (pM q2.2 50 (((2 : Int32) * i_1) + i_3).toNatClampNeg ((q2.2 50 (((2 : Int32) * i_1) + i_3).toNatClampNeg) - (1 : Int32))) fun M14 =>
if i_3 = 0 then
gd (¬ (q2.1 < 0 ∨ 48 ≤ q2.1.toNatClampNeg)) (
gd (¬ ((M14 16 q2.1.toNatClampNeg) < 0 ∨ 60 ≤ (M14 16 q2.1.toNatClampNeg).toNatClampNeg)) (
st (pM M14 23 (M14 16 q2.1.toNatClampNeg).toNatClampNeg (vp_nar .boolean (1 : Int32))) fun M16 =>
gd (¬ (q2.1 < 0 ∨ 48 ≤ q2.1.toNatClampNeg)) (
st (pM M16 16 q2.1.toNatClampNeg (-1 : Int32)) fun M17 =>
j12 M17)))
else
gd (¬ (q2.1 < 0 ∨ 48 ≤ q2.1.toNatClampNeg)) (
st (pM M14 15 q2.1.toNatClampNeg (0 : Int32)) fun M15 =>
j12 M15)))))
def bGo9 (r1 : Nat) : (Int32 × Int32 × zSt) → Option ((Int32 × Int32 × zSt) ⊕ ((Nat × zSt) ⊕ (Int32 × zSt))) := fun (q13 : (Int32 × Int32 × zSt)) =>
if (zI q13.2.2 (5, 0, 0) 3) ≤ q13.2.1 then
some (.inr (.inr (q13.1, q13.2.2)))
else
cl (fX4_tableOf q13.2.2 q13.2.1) fun r21 =>
cxl (fX9_demandTable q13.2.2 r21) fun r23 =>
cl2 (fX7_emptyBox q13.2.2 r23) fun r27 S29 =>
st (q13.1 + r27) fun x30 =>
cl (fX9_mendSwitches S29 r23 r1) fun S33 =>
cl (fX9_mendCoils S33 r23 r1) fun S36 =>
st (pI S36 (9, r1, 0) 1 (zI S36 (8, r23, 0) 0)) fun S37 =>
st (q13.2.1 + (1 : Int32)) fun x38 =>
some (.inl (x30, x38, S37))
def bGo10 (i_1 : Int32) : (Int32 × Int32 × zMs) → Option ((Int32 × Int32 × zMs) ⊕ (Int32 × zMs)) := fun (q17 : (Int32 × Int32 × zMs)) =>
if (q17.2.2 51 0) ≤ q17.2.1 then
some (.inr ((q17.1, q17.2.2)))
else
gd (¬ (q17.2.1 < 0 ∨ 6 ≤ q17.2.1.toNatClampNeg)) (
st (q17.2.2 53 q17.2.1.toNatClampNeg) fun x23 =>
gd (¬ (x23 < 0 ∨ 6 ≤ x23.toNatClampNeg)) (
st (q17.1 + (q17.2.2 4 x23.toNatClampNeg)) fun x24 =>
gd (¬ (x23 < 0 ∨ 6 ≤ x23.toNatClampNeg)) (
gd (¬ (x23 < 0 ∨ 6 ≤ x23.toNatClampNeg)) (
gd (¬ (x23 < 0 ∨ 6 ≤ x23.toNatClampNeg)) (
gd (¬ (x23 < 0 ∨ 6 ≤ x23.toNatClampNeg)) (
st (pM q17.2.2 6 x23.toNatClampNeg ((q17.2.2 6 x23.toNatClampNeg) + ((q17.2.2 5 x23.toNatClampNeg) - (q17.2.2 4 x23.toNatClampNeg)))) fun M25 =>
gd (¬ (x23 < 0 ∨ 6 ≤ x23.toNatClampNeg)) (
st (pM M25 4 x23.toNatClampNeg (0 : Int32)) fun M26 =>
gd (¬ (x23 < 0 ∨ 6 ≤ x23.toNatClampNeg)) (
st (pM M26 5 x23.toNatClampNeg (0 : Int32)) fun M27 =>
cl (fX10_mend M27 i_1 x23 (0 : Int32)) fun M30 =>
cl (fX10_mend M30 i_1 x23 (1 : Int32)) fun M33 =>
gd (¬ (x23 < 0 ∨ 6 ≤ x23.toNatClampNeg)) (
gd (¬ (i_1 < 0 ∨ 2 ≤ i_1.toNatClampNeg)) (
st (pM M33 49 i_1.toNatClampNeg (M33 2 x23.toNatClampNeg)) fun M34 =>
st (q17.2.1 + (1 : Int32)) fun x35 =>
some (.inl (x24, x35, M34))))))))))))
section PGO
variable {S S1 S0 : zSt} {M M1 M0 : zMs} {c n a t b : Nat}
theorem ok_planned (S : zSt) (M : zMs) (i j : Int32) (h : Tie S M) : zOk Tie [1] (fun y : (Int32 × zSt) => (y.1).toInt64) (fun y : (Int32 × zSt) => y.2) (fX9_planned S i j) (fun b : Int32 => b.toInt64) (fX10_planned M i j) := by
  rcases van_d (S := S) (M := M) i with ⟨v, hv, rfl⟩ | ⟨e1, e2⟩
  · obtain ⟨S1, M1, e9, e10, p1, p2, ⟨bst, p3⟩, -, p6, p7⟩ := search_eq h hv
    have hc := gaP_le (needB M) (nT M)
    have h6 := nT6 h.1
    generalize (gaP (needB M) (nT M)).1 = c at *
    by_cases hj : j < 0
    · refine Or.inr ⟨(1, S1), 0, pM M 0 0 1, ?_, ?_, by simp, rfl, tie_hid h (pF_h p6) (eqM_ref 1)⟩
      · unfold fX9_planned
        rw [dV_in hv, cx_r, e9, cl_s, dI_out (Or.inl hj), cx_l]
      · unfold fX10_planned
        simp only [isVan_in hv, cl_q, st_q, i10, if_false, hj, if_true, refused_n M i10, cl2_q]
    · obtain ⟨k, hk, rfl⟩ := nI_of hj
      by_cases hkc : k < c
      · obtain ⟨b1, b2, b3⟩ := p3 k hkc
        refine Or.inl ⟨(nI (bst k), S1), nI (bst k), pM M1 0 0 0, ?_, ?_, rfl, rfl, tie_hid h (pF_h p6) (eqM_t (qF_e p7) (eqM_ref 0))⟩
        · unfold fX9_planned fX4_tableOf
          have ge : ¬ nI c ≤ nI k := nI_ge hkc (by omega)
          have ge6 : ¬ (6 : Int32) ≤ nI k := by rw [c6I]; exact nI_ge (by omega) (by omega)
          have ge7 : ¬ 6 ≤ k := by omega
          rw [dV_in hv, cx_r, e9, cl_s, dI_in hj (by rw [p1]; exact nI_lt hkc (by omega)), cx_r]
          simp only [st_q, hj, if_false, p1, ge, ge6, nI_clamp hk, false_or, ge7, not_false_eq_true, gd_T, b2, cl_q]
        · unfold fX10_planned
          have ge : ¬ nI c ≤ nI k := nI_ge hkc (by omega)
          have ge7 : ¬ 6 ≤ k := by omega
          have r0 : fX10_refused M1 0 = some (0, pM M1 0 0 0) := rfl
          have b3' : pM M1 0 0 0 53 k = nI (bst k) := b3
          simp only [isVan_in hv, cl_q, st_q, i10, if_false, hj, e10, p2, ge, r0, cl2_q, if_true, nI_clamp hk, false_or, ge7, not_false_eq_true, gd_T, b3']
      · have le : nI c ≤ nI k := nI_le (by omega) hk
        refine Or.inr ⟨(1, S1), 0, pM M1 0 0 1, ?_, ?_, by simp, rfl, tie_hid h (pF_h p6) (eqM_t (qF_e p7) (eqM_ref 1))⟩
        · unfold fX9_planned
          rw [dV_in hv, cx_r, e9, cl_s, dI_out (Or.inr (by rw [p1]; exact le)), cx_l]
        · unfold fX10_planned
          simp only [isVan_in hv, cl_q, st_q, i10, if_false, hj, e10, p2, le, if_true, refused_n M1 i10, cl2_q]
  · refine thr h (n := 1) (w := 1) (b := 0) (by simp) (by decide) ?_ ?_
    · unfold fX9_planned; rw [e1, cx_l]
    · unfold fX10_planned
      by_cases hj : j < 0
      · simp only [e2, cl_q, st_q, if_true, refused_n M i10, cl2_q, i10, if_false, hj]
      · simp only [e2, cl_q, st_q, if_true, refused_n M i10, cl2_q, i10, if_false]
/-! one write on both sides -/
theorem vS_men (j : Nat) (v : Int32) (k i : Nat) : vS (pI S (21, 0, 0) j v) k i = if k = 23 ∧ i = j then v else vS S k i := by
  have hm : ∀ d a b1 x, vMd (pI S (21, 0, 0) j v) d a b1 x = vMd S d a b1 x := vMd_pI _ _ _ (show (21 : Nat) ≠ 4 by decide)
  unfold vS
  split <;> (try simp [zI_at, hm]) <;> (intro e; exfalso; revert e; assumption)
theorem vS_site (a : Nat) (v : Int32) (k i : Nat) : vS (pI S (9, a, 0) 1 v) k i = if k = 49 ∧ i = a then v else vS S k i := by
  have hm : ∀ d a1 b1 x, vMd (pI S (9, a, 0) 1 v) d a1 b1 x = vMd S d a1 b1 x := vMd_pI _ _ _ (show (9 : Nat) ≠ 4 by decide)
  unfold vS
  split <;> (try simp [zI_at, hm]) <;> (intro e; exfalso; revert e; assumption)
theorem ag_w {S1 : zSt} (h : AG S M) (k0 i0 : Nat) (v : Int32) (hd : ∀ k i, dom (pM M k0 i0 v) k i → dom M k i) (hS : ∀ k i, vS S1 k i = if k = k0 ∧ i = i0 then v else vS S k i) : AG S1 (pM M k0 i0 v) :=
  ag_upd h k0 i0 v hd (fun k i _ => hS k i) (fun k i _ => pM_at k0 i0 v k i)
theorem tw_miss (h : Tie S M) (ht : t < nT M) (v : Int32) : Tie (pI S (8, t, 0) 7 v) (pM M 6 t v) := by
  refine ⟨?_, ag_w h.2.1 6 t v (fun k i hd => hd) (fun k i => vS_tab 6 (by omega) v k i), nv_pI _ _ _ (show (8 : Nat) ≠ 0 by decide) h.2.2.1, lg_pI _ _ _ (Or.inl (show (8 : Nat) ≠ 3 by decide)) h.2.2.2⟩
  obtain ⟨w1, w2, w3, w4, w5⟩ := h.1
  refine ⟨w1, w2, w3, fun u hu => ⟨(w4 u hu).1, fun hn => ?_⟩, w5⟩
  obtain ⟨a1, a2, a3, a4⟩ := (w4 u hu).2 hn
  refine ⟨a1, a2, a3, ?_⟩
  rw [pM_at, if_neg]
  · exact a4
  · rintro ⟨-, e⟩
    have hn : nT M ≤ u := hn
    omega
theorem tw_bro (h : Tie S M) (ht : t < nT M) (v : Int32) : Tie (pI S (8, t, 0) 6 v) (pM M 5 t v) := by
  refine ⟨?_, ag_w h.2.1 5 t v (fun k i hd => hd) (fun k i => vS_tab 5 (by omega) v k i), nv_pI _ _ _ (show (8 : Nat) ≠ 0 by decide) h.2.2.1, lg_pI _ _ _ (Or.inl (show (8 : Nat) ≠ 3 by decide)) h.2.2.2⟩
  obtain ⟨w1, w2, w3, w4, w5⟩ := h.1
  refine ⟨w1, w2, w3, fun u hu => ⟨(w4 u hu).1, fun hn => ?_⟩, w5⟩
  obtain ⟨a1, a2, a3, a4⟩ := (w4 u hu).2 hn
  refine ⟨a1, a2, ?_, a4⟩
  rw [pM_at, if_neg]
  · exact a3
  · rintro ⟨-, e⟩
    have hn : nT M ≤ u := hn
    omega
theorem tw_box (h : Tie S M) (ht : t < nT M) (v : Int32) : Tie (pI S (8, t, 0) 5 v) (pM M 4 t v) := by
  refine ⟨?_, ag_w h.2.1 4 t v (fun k i hd => hd) (fun k i => vS_tab 4 (by omega) v k i), nv_pI _ _ _ (show (8 : Nat) ≠ 0 by decide) h.2.2.1, lg_pI _ _ _ (Or.inl (show (8 : Nat) ≠ 3 by decide)) h.2.2.2⟩
  obtain ⟨w1, w2, w3, w4, w5⟩ := h.1
  refine ⟨w1, w2, w3, fun u hu => ⟨(w4 u hu).1, fun hn => ?_⟩, w5⟩
  obtain ⟨a1, a2, a3, a4⟩ := (w4 u hu).2 hn
  refine ⟨a1, ?_, a3, a4⟩
  rw [pM_at, if_neg]
  · exact a2
  · rintro ⟨-, e⟩
    have hn : nT M ≤ u := hn
    omega
theorem tw_wear (h : Tie S M) (ht : t < nT M) (hb : b < nB M t) (v : Int32) : Tie (pI S (2, t, b) 5 v) (pM M 15 (8 * t + b) v) := by
  obtain ⟨h6, h8⟩ := bump h.1 ht hb
  refine ⟨?_, ag_w h.2.1 15 (8 * t + b) v (fun k i hd => hd) (fun k i => vS_sw h8 15 (by omega) v k i), nv_pI _ _ _ (show (2 : Nat) ≠ 0 by decide) h.2.2.1, lg_pI _ _ _ (Or.inl (show (2 : Nat) ≠ 3 by decide)) h.2.2.2⟩
  obtain ⟨w1, w2, w3, w4, w5, w6, w7⟩ := h.1
  refine ⟨w1, w2, w3, w4, w5, fun u k hu hk => ⟨(w6 u k hu hk).1, fun hn => ?_⟩, w7⟩
  obtain ⟨a1, a2⟩ := (w6 u k hu hk).2 hn
  refine ⟨a1, ?_⟩
  rw [pM_at, if_neg]
  · exact a2
  · rintro ⟨-, e⟩
    have hn : nB M u ≤ k := hn
    have e1 : u = t := by omega
    have e2 : k = b := by omega
    rw [e1, e2] at hn
    omega
theorem tw_free (h : Tie S M) (ht : t < nT M) (hb : b < nB M t) : Tie (pI S (2, t, b) 6 (-1)) (pM M 16 (8 * t + b) (-1)) := by
  obtain ⟨h6, h8⟩ := bump h.1 ht hb
  refine ⟨?_, ag_w h.2.1 16 (8 * t + b) (-1) (fun k i hd => hd) (fun k i => vS_sw h8 16 (by omega) (-1) k i), nv_pI _ _ _ (show (2 : Nat) ≠ 0 by decide) h.2.2.1, lg_pI _ _ _ (Or.inl (show (2 : Nat) ≠ 3 by decide)) h.2.2.2⟩
  obtain ⟨w1, w2, w3, w4, w5, w6, w7⟩ := h.1
  refine ⟨w1, w2, w3, w4, w5, fun u k hu hk => ?_, w7⟩
  obtain ⟨q1, q2⟩ := w6 u k hu hk
  have ex : pM M 16 (8 * t + b) (-1) 16 (8 * u + k) = if 8 * u + k = 8 * t + b then -1 else M 16 (8 * u + k) := by
    rw [pM_at]
    by_cases e : 8 * u + k = 8 * t + b
    · rw [if_pos ⟨rfl, e⟩, if_pos e]
    · rw [if_neg (fun q => e q.2), if_neg e]
  rw [ex]
  by_cases e : 8 * u + k = 8 * t + b
  · rw [if_pos e]
    exact ⟨fun hn => ⟨(q1 hn).1, (q1 hn).2.1, (q1 hn).2.2.1, (q1 hn).2.2.2.1, (q1 hn).2.2.2.2.1, Or.inl rfl⟩, fun hn => ⟨rfl, (q2 hn).2⟩⟩
  · rw [if_neg e]
    exact ⟨q1, q2⟩
theorem tw_men (h : Tie S M) {j : Nat} (hj : j < 60) : Tie (pI S (21, 0, 0) j 1) (pM M 23 j 1) := by
  refine ⟨?_, ag_w h.2.1 23 j 1 (fun k i hd => hd) (fun k i => vS_men j 1 k i), nv_pI _ _ _ (show (21 : Nat) ≠ 0 by decide) h.2.2.1, lg_pI _ _ _ (Or.inl (show (21 : Nat) ≠ 3 by decide)) h.2.2.2⟩
  obtain ⟨w1, w2, w3, w4, w5, w6, w7, w8, w9, w10, w11, w12⟩ := h.1
  refine ⟨w1, w2, w3, w4, w5, w6, w7, w8, w9, w10, w11, fun i hi => ?_⟩
  rw [pM_at]
  by_cases e : (23 : Nat) = 23 ∧ i = j
  · rw [if_pos e]; exact Or.inr rfl
  · rw [if_neg e]; exact w12 i hi
theorem tw_spare (h : Tie S M) {a k n : Nat} (ha : a < 2) (hk : k < 2) (hn : n ≤ 20) : Tie (pI S (20, a, 0) k (nI n)) (pM M 50 (2 * a + k) (nI n)) := by
  refine ⟨?_, ag_w h.2.1 50 (2 * a + k) (nI n) (fun k i hd => hd) (fun k1 i => vS_van hk _ k1 i), nv_pI _ _ _ (show (20 : Nat) ≠ 0 by decide) h.2.2.1, lg_pI _ _ _ (Or.inl (show (20 : Nat) ≠ 3 by decide)) h.2.2.2⟩
  obtain ⟨w1, w2, w3, w4, w5, w6, w7, w8, w9, w10, w11, w12⟩ := h.1
  refine ⟨w1, w2, w3, w4, w5, w6, w7, w8, w9, w10, fun u hu => ?_, w12⟩
  rw [pM_at]
  by_cases e : (50 : Nat) = 50 ∧ u = 2 * a + k
  · rw [if_pos e]; exact ⟨n, Nat.zero_le _, hn, rfl⟩
  · rw [if_neg e]; exact w11 u hu
theorem tw_site (h : Tie S M) {a n : Nat} (hn : n ≤ 100) : Tie (pI S (9, a, 0) 1 (nI n)) (pM M 49 a (nI n)) := by
  refine ⟨?_, ag_w h.2.1 49 a (nI n) (fun k i hd => hd) (fun k1 i => vS_site a _ k1 i), nv_pI _ _ _ (show (9 : Nat) ≠ 0 by decide) h.2.2.1, lg_pI _ _ _ (Or.inl (show (9 : Nat) ≠ 3 by decide)) h.2.2.2⟩
  obtain ⟨w1, w2, w3, w4, w5, w6, w7, w8, w9, w10, w11, w12⟩ := h.1
  refine ⟨w1, w2, w3, w4, w5, w6, w7, w8, w9, fun u hu => ?_, w11, w12⟩
  rw [pM_at]
  by_cases e : (49 : Nat) = 49 ∧ u = a
  · rw [if_pos e]; exact ⟨n, Nat.zero_le _, hn, rfl⟩
  · rw [if_neg e]; exact w10 u hu
/-- what a round of service leaves -/
def gF (S S1 : zSt) : Prop := zI S1 (5, 0, 0) = zI S (5, 0, 0) ∧ zI S1 (19, 0, 0) = zI S (19, 0, 0)
def kF (M M1 : zMs) : Prop := ∀ k, ¬ (k = 4 ∨ k = 5 ∨ k = 6 ∨ k = 15 ∨ k = 16 ∨ k = 23 ∨ k = 49 ∨ k = 50) → M1 k = M k
theorem gF_t {S2 : zSt} (h : gF S S1) (h1 : gF S1 S2) : gF S S2 := ⟨h1.1.trans h.1, h1.2.trans h.2⟩
theorem kF_t {M2 : zMs} (h : kF M M1) (h1 : kF M1 M2) : kF M M2 := fun k hk => (h1 k hk).trans (h k hk)
theorem gF_p {d : zId} (h5 : d.1 ≠ 5) (h19 : d.1 ≠ 19) (k : Nat) (v : Int32) : gF S (pI S d k v) := ⟨zI_pIn S (kne (fun e => h5 e.symm)) k v, zI_pIn S (kne (fun e => h19 e.symm)) k v⟩
theorem kF_p {k : Nat} (h : k = 4 ∨ k = 5 ∨ k = 6 ∨ k = 15 ∨ k = 16 ∨ k = 23 ∨ k = 49 ∨ k = 50) (i : Nat) (v : Int32) : kF M (pM M k i v) := fun k1 h1 => pMn (fun e => h1 (by rw [e]; exact h)) i v
theorem kF_nT (h : kF M M1) : nT M1 = nT M := by unfold nT; rw [h 1 (by omega)]
theorem kF_nB (h : kF M M1) (t : Nat) : nB M1 t = nB M t := by unfold nB; rw [h 8 (by omega)]
theorem take9 {a k n : Nat} (hk : k < 2) (e : zI S (20, a, 0) k = nI n) : fX8_takeSpare S a (nI k) = some (if n = 0 then (0, S) else (1, pI S (20, a, 0) k (nI n + (-1)))) ∨ 2 ^ 31 ≤ n := by
  by_cases hn : n < 2 ^ 31
  · left
    unfold fX8_takeSpare
    rw [spareOf_eq S a hk, cl_s, e]
    by_cases h0 : n = 0
    · rw [if_pos (by rw [h0]; exact nI_0), if_pos h0]
    · rw [if_neg (nI_ne0 (by omega) hn), if_neg h0, addSpare_eq S a hk, cl_s, e]
  · right; omega
theorem nar1 : vp_nar .boolean (1 : Int32) = 1 := by first | rfl | decide
theorem sw_none (h : Tie S M) {v : Nat} (hv : v < 2) (ht : t < nT M) (h0 : M 50 (2 * v) = 0) : ∀ (dd k fuel : Nat), k + dd = nB M t → dd < fuel → lp (bW9 t v) fuel (nI k, S) = some S := by
  have h8 := nB8 h.1 (t := t) (by have := nT6 h.1; omega)
  intro dd
  induction dd with
  | zero =>
    intro k fuel hk hf
    obtain ⟨f, rfl⟩ : ∃ f, fuel = f + 1 := ⟨fuel - 1, by omega⟩
    refine lp_e _ f ?_
    unfold bW9
    dsimp only
    rw [zLs_size (lsT h ht), cl_s, if_pos (nI_le (by omega) (by omega))]
  | succ dd ih =>
    intro k fuel hk hf
    obtain ⟨f, rfl⟩ : ∃ f, fuel = f + 1 := ⟨fuel - 1, by omega⟩
    have hk1 : k < nB M t := by omega
    obtain ⟨s5, s6⟩ := sw_eq h ht hk1
    have eb : bW9 t v (nI k, S) = some (.inl (nI (k + 1), S)) := by
      have ge : ¬ nI (nB M t) ≤ nI k := nI_ge hk1 (by omega)
      have e20 : zI S (20, v, 0) 0 = nI 0 := by
        have := spare_eq h hv (k := 0) (by omega)
        rw [this, Nat.add_zero, h0, nI_0]
      have tk : fX8_takeSpare S v 0 = some (0, S) := by
        rcases take9 (S := S) (a := v) (k := 0) (n := 0) (by omega) e20 with q | q
        · rw [nI_0, if_pos rfl] at q; exact q
        · omega
      unfold bW9
      by_cases h1 : M 16 (8 * t + k) < 0
      · simp only [zLs_size (lsT h ht), cl_q, ge, if_false, zLs_get (lsT h ht) (show nB M t ≤ 64 by omega) hk1, st_q, s6, h1, if_true, nI_1]
      · by_cases h2 : (60 : Int32) ≤ M 16 (8 * t + k)
        · simp only [zLs_size (lsT h ht), cl_q, ge, if_false, zLs_get (lsT h ht) (show nB M t ≤ 64 by omega) hk1, st_q, s6, h1, h2, if_true, nI_1]
        · simp only [zLs_size (lsT h ht), cl_q, ge, if_false, zLs_get (lsT h ht) (show nB M t ≤ 64 by omega) hk1, st_q, s6, h1, h2, tk, cl2_q, if_true, nI_1]
    rw [lp_s _ f eb]
    exact ih (k + 1) f (by omega) (by omega)
theorem coil_none (h : Tie S M) {v : Nat} (hv : v < 2) (ht : t < nT M) (h0 : M 50 (2 * v + 1) = 0) : ∀ (dd k fuel : Nat), k + dd = nB M t → dd < fuel → lp (bC9 t v) fuel (nI k, S) = some S := by
  have h8 := nB8 h.1 (t := t) (by have := nT6 h.1; omega)
  intro dd
  induction dd with
  | zero =>
    intro k fuel hk hf
    obtain ⟨f, rfl⟩ : ∃ f, fuel = f + 1 := ⟨fuel - 1, by omega⟩
    refine lp_e _ f ?_
    unfold bC9
    dsimp only
    rw [zLs_size (lsT h ht), cl_s, if_pos (nI_le (by omega) (by omega))]
  | succ dd ih =>
    intro k fuel hk hf
    obtain ⟨f, rfl⟩ : ∃ f, fuel = f + 1 := ⟨fuel - 1, by omega⟩
    have hk1 : k < nB M t := by omega
    obtain ⟨s5, s6⟩ := sw_eq h ht hk1
    have eb : bC9 t v (nI k, S) = some (.inl (nI (k + 1), S)) := by
      have ge : ¬ nI (nB M t) ≤ nI k := nI_ge hk1 (by omega)
      have e20 : zI S (20, v, 0) 1 = nI 0 := by
        have := spare_eq h hv (k := 1) (by omega)
        rw [this, h0, nI_0]
      have tk : fX8_takeSpare S v 1 = some (0, S) := by
        rcases take9 (S := S) (a := v) (k := 1) (n := 0) (by omega) e20 with q | q
        · rw [if_pos rfl] at q; exact q
        · omega
      have hB : fX1_isBroken S t k = some (if M 15 (8 * t + k) < 40 then 0 else 1) := by
        unfold fX1_isBroken
        rw [s5]
        by_cases e : M 15 (8 * t + k) < 40
        · rw [if_pos e, if_pos e]
        · rw [if_neg e, if_neg e]
      unfold bC9
      by_cases h1 : M 15 (8 * t + k) < 40
      · simp only [zLs_size (lsT h ht), cl_q, ge, if_false, zLs_get (lsT h ht) (show nB M t ≤ 64 by omega) hk1, st_q, hB, h1, if_true, nI_1]
      · simp only [zLs_size (lsT h ht), cl_q, ge, if_false, zLs_get (lsT h ht) (show nB M t ≤ 64 by omega) hk1, st_q, hB, h1, i10, tk, cl2_q, if_true, nI_1]
    rw [lp_s _ f eb]
    exact ih (k + 1) f (by omega) (by omega)
theorem spare_n (h : WM M) {i : Nat} (hi : i < 4) : ∃ n, n ≤ 20 ∧ M 50 i = nI n := by
  obtain ⟨w1, w2, w3, w4, w5, w6, w7, w8, w9, w10, w11, w12⟩ := h
  obtain ⟨n, -, hn, e⟩ := w11 i hi
  exact ⟨n, hn, e⟩
/-- how many are bad -/
def cB (M : zMs) (J : Int32) (i : Nat) : Nat → Nat
  | 0 => 0
  | d + 1 => (if bB M J i = true then 1 else 0) + cB M J (i + 1) d
theorem cB_c {J : Int32} : ∀ (d i : Nat), (∀ u, i ≤ u → u < i + d → bB M1 J u = bB M J u) → cB M1 J i d = cB M J i d := by
  intro d
  induction d with
  | zero => intro i _; rfl
  | succ d ih =>
    intro i h
    show (if bB M1 J i = true then 1 else 0) + cB M1 J (i + 1) d = (if bB M J i = true then 1 else 0) + cB M J (i + 1) d
    rw [h i (by omega) (by omega), ih (i + 1) (fun u a b => h u (by omega) (by omega))]
theorem cB_le (M : zMs) (J : Int32) : ∀ (d i : Nat), cB M J i d ≤ d := by
  intro d
  induction d with
  | zero => intro i; exact Nat.le_refl _
  | succ d ih =>
    intro i
    show (if bB M J i = true then 1 else 0) + cB M J (i + 1) d ≤ d + 1
    have := ih (i + 1)
    by_cases e : bB M J i = true
    · rw [if_pos e]; omega
    · rw [if_neg e]; omega
theorem cB_0 {J : Int32} : ∀ {d i : Nat}, cB M J i d = 0 → ∀ u, i ≤ u → u < i + d → bB M J u = false := by
  intro d
  induction d with
  | zero => intro i _ u a b; omega
  | succ d ih =>
    intro i h u a b
    have h : (if bB M J i = true then 1 else 0) + cB M J (i + 1) d = 0 := h
    by_cases e : bB M J i = true
    · rw [if_pos e] at h; omega
    · by_cases eu : u = i
      · rw [eu]; exact Bool.eq_false_iff.mpr e
      · exact ih (i := i + 1) (by omega) u (by omega) (by omega)
/-- what mending does from a switch on: J the kind, r its row, q the place of the spare parts -/
def mdG (M M1 : zMs) (q r : Nat) (J : Int32) (i d : Nat) : Prop := (∀ u, u ≠ q → M1 50 u = M 50 u) ∧ (∀ k, k ≠ r → k ≠ 23 → k ≠ 50 → M1 k = M k) ∧ (∀ u, (u < i ∨ i + d ≤ u) → M1 r u = M r u) ∧
  ∃ n1 m, n1 + m ≤ 20 ∧ M 50 q = nI (n1 + m) ∧ M1 50 q = nI n1 ∧ cB M J i d = cB M1 J i d + m ∧ (n1 = 0 ∨ cB M1 J i d = 0)
theorem mdG_0 {q r i n : Nat} {J : Int32} (hn : n ≤ 20) (e : M 50 q = nI n) : mdG M M q r J i 0 := ⟨fun _ _ => rfl, fun _ _ _ _ => rfl, fun _ _ => rfl, n, 0, by omega, e, e, rfl, Or.inr rfl⟩
theorem mdG_n {q r i d : Nat} {J : Int32} (e : M 50 q = nI 0) : mdG M M q r J i d := ⟨fun _ _ => rfl, fun _ _ _ _ => rfl, fun _ _ => rfl, 0, 0, by omega, e, e, rfl, Or.inl rfl⟩
theorem mdG_s {q r i d : Nat} {J : Int32} (hB : ∀ (A B : zMs) u, B r u = A r u → bB B J u = bB A J u) (h : mdG M M1 q r J (i + 1) d) (hb : bB M J i = false) : mdG M M1 q r J i (d + 1) := by
  obtain ⟨h1, h2, h3, n1, m, h4, h5, h6, h7, h8⟩ := h
  have e : bB M1 J i = false := by rw [hB M M1 i (h3 i (by omega)), hb]
  have c1 : cB M1 J i (d + 1) = cB M1 J (i + 1) d := by
    show (if bB M1 J i = true then 1 else 0) + cB M1 J (i + 1) d = _
    rw [e, if_neg (by decide), Nat.zero_add]
  have c0 : cB M J i (d + 1) = cB M J (i + 1) d := by
    show (if bB M J i = true then 1 else 0) + cB M J (i + 1) d = _
    rw [hb, if_neg (by decide), Nat.zero_add]
  exact ⟨h1, h2, fun u hu => h3 u (by omega), n1, m, h4, h5, h6, by rw [c0, c1]; exact h7, by rw [c1]; exact h8⟩
theorem mdG_d {M2 : zMs} {q r i d n : Nat} {J : Int32} (hr : r ≠ 23 ∧ r ≠ 50) (hB : ∀ (A B : zMs) u, B r u = A r u → bB B J u = bB A J u) (h : mdG M2 M1 q r J (i + 1) d) (hb : bB M J i = true) (hb2 : bB M2 J i = false) (hn0 : n ≠ 0) (hn : n ≤ 20) (e : M 50 q = nI n) (e2 : M2 50 q = nI (n - 1)) (f1 : ∀ u, u ≠ q → M2 50 u = M 50 u) (f2 : ∀ k, k ≠ r → k ≠ 23 → k ≠ 50 → M2 k = M k) (f3 : ∀ u, u ≠ i → M2 r u = M r u) : mdG M M1 q r J i (d + 1) := by
  obtain ⟨h1, h2, h3, n1, m, h4, h5, h6, h7, h8⟩ := h
  have e3 : bB M1 J i = false := by rw [hB M2 M1 i (h3 i (by omega)), hb2]
  have c1 : cB M1 J i (d + 1) = cB M1 J (i + 1) d := by
    show (if bB M1 J i = true then 1 else 0) + cB M1 J (i + 1) d = _
    rw [e3, if_neg (by decide), Nat.zero_add]
  have c0 : cB M J i (d + 1) = 1 + cB M2 J (i + 1) d := by
    show (if bB M J i = true then 1 else 0) + cB M J (i + 1) d = _
    rw [hb, if_pos rfl, cB_c (M1 := M) (M := M2) d (i + 1) (fun u a b => (hB M M2 u (f3 u (by omega))).symm)]
  have hnm : n = n1 + m + 1 := by
    have := (nI_eq (by omega) (by omega)).mp (e2.symm.trans h5)
    omega
  exact ⟨fun u hu => (h1 u hu).trans (f1 u hu), fun k a b c => (h2 k a b c).trans (f2 k a b c), fun u hu => (h3 u (by omega)).trans (f3 u (by omega)), n1, m + 1, by omega, by rw [e, hnm]; rfl, h6, by rw [c0, c1, h7]; omega, by rw [c1]; exact h8⟩
theorem bB_16 (A B : zMs) (u : Nat) (e : B 16 u = A 16 u) : bB B 0 u = bB A 0 u := by
  show decide (B 16 u ≠ -1) = decide (A 16 u ≠ -1)
  rw [e]
theorem bB_15 (A B : zMs) (u : Nat) (e : B 15 u = A 15 u) : bB B 1 u = bB A 1 u := by
  show decide (¬ B 15 u < 40) = decide (¬ A 15 u < 40)
  rw [e]
/-- the boxes' coins, in the order of the plan -/
def gS (M : zMs) (bst : Nat → Nat) : Int32 → Nat → Nat → Int32
  | x, _, 0 => x
  | x, k, d + 1 => gS M bst (x + M 4 (bst k)) (k + 1) d
theorem gS_c {bst : Nat → Nat} : ∀ (d k : Nat) (x : Int32), (∀ i, k ≤ i → i < k + d → M1 4 (bst i) = M 4 (bst i)) → gS M1 bst x k d = gS M bst x k d := by
  intro d
  induction d with
  | zero => intro k x _; rfl
  | succ d ih =>
    intro k x h
    show gS M1 bst (x + M1 4 (bst k)) (k + 1) d = gS M bst (x + M 4 (bst k)) (k + 1) d
    rw [h k (by omega) (by omega), ih (k + 1) _ (fun i a b => h i (by omega) (by omega))]
/-- the bad of all tables -/
def tB (M : zMs) (J : Int32) : Nat → Nat
  | 0 => 0
  | n + 1 => tB M J n + cB M J (8 * n) (nB M n)
theorem tB_c {J : Int32} (hB : ∀ t, nB M1 t = nB M t) : ∀ (n : Nat), (∀ t, t < n → cB M1 J (8 * t) (nB M t) = cB M J (8 * t) (nB M t)) → tB M1 J n = tB M J n := by
  intro n
  induction n with
  | zero => intro _; rfl
  | succ n ih =>
    intro h
    show tB M1 J n + cB M1 J (8 * n) (nB M1 n) = tB M J n + cB M J (8 * n) (nB M n)
    rw [hB, ih (fun t ht => h t (by omega)), h n (by omega)]
theorem tB_t {J : Int32} {t m : Nat} (hB : ∀ t, nB M1 t = nB M t) (he : cB M J (8 * t) (nB M t) = cB M1 J (8 * t) (nB M t) + m) : ∀ (n : Nat), t < n → (∀ u, u < n → u ≠ t → cB M1 J (8 * u) (nB M u) = cB M J (8 * u) (nB M u)) → tB M J n = tB M1 J n + m := by
  intro n
  induction n with
  | zero => intro h; omega
  | succ n ih =>
    intro h hu
    show tB M J n + cB M J (8 * n) (nB M n) = tB M1 J n + cB M1 J (8 * n) (nB M1 n) + m
    rw [hB]
    by_cases e : n = t
    · rw [e] at hu ⊢
      rw [he, tB_c hB t (fun u a => hu u (by omega) (by omega))]
      omega
    · rw [hu n (by omega) e, ih (by omega) (fun u a b => hu u (by omega) b)]
      omega
/-- what going has done of one kind, from place k of the plan on -/
def kdG (M M1 : zMs) (q r : Nat) (J : Int32) (bst : Nat → Nat) (k c : Nat) : Prop := (∀ u, u < 6 → (∀ i, k ≤ i → i < c → bst i ≠ u) → ∀ b, b < 8 → M1 r (8 * u + b) = M r (8 * u + b)) ∧
  ∃ n1 m, n1 + m ≤ 20 ∧ M 50 q = nI (n1 + m) ∧ M1 50 q = nI n1 ∧ tB M J (nT M) = tB M1 J (nT M) + m ∧ (n1 = 0 ∨ ∀ i, k ≤ i → i < c → cB M1 J (8 * bst i) (nB M (bst i)) = 0)
theorem kdG_0 {q r n k : Nat} {J : Int32} {bst : Nat → Nat} (hn : n ≤ 20) (e : M 50 q = nI n) : kdG M M q r J bst k k := ⟨fun _ _ _ _ _ => rfl, n, 0, by omega, e, e, rfl, Or.inr (fun i a b => by omega)⟩
theorem kdG_s {M2 : zMs} {q r k c t : Nat} {J : Int32} {bst : Nat → Nat} (hr : r ≠ 8 ∧ r ≠ 23 ∧ r ≠ 50) (hB : ∀ (A B : zMs) u, B r u = A r u → bB B J u = bB A J u) (hW : WM M) (hj : ∀ i, k + 1 ≤ i → i < c → bst i ≠ t) (hk : k < c) (ht : bst k = t) (htT : t < nT M) (h2T : nT M2 = nT M) (h2B : ∀ u, nB M2 u = nB M u) (h1B : ∀ u, nB M1 u = nB M u)
    (h50 : ∀ u, u ≠ q → True) (hb : ∀ i, k + 1 ≤ i → i < c → bst i < nT M) (hm : ∀ u, (u < 8 * t ∨ 8 * t + nB M t ≤ u) → M2 r u = M r u)
    (hm2 : ∃ n1 m, n1 + m ≤ 20 ∧ M 50 q = nI (n1 + m) ∧ M2 50 q = nI n1 ∧ cB M J (8 * t) (nB M t) = cB M2 J (8 * t) (nB M t) + m ∧ (n1 = 0 ∨ cB M2 J (8 * t) (nB M t) = 0)) (h : kdG M2 M1 q r J bst (k + 1) c) : kdG M M1 q r J bst k c := by
  obtain ⟨g1, n2, m2, g2, g3, g4, g5, g6⟩ := h
  obtain ⟨n1, m, a1, a2, a3, a4, a5⟩ := hm2
  have hT6 := nT6 hW
  have e12 : n1 = n2 + m2 := (nI_eq (by omega) (by omega)).mp (a3.symm.trans g3)
  have co : ∀ u, u < nT M → u ≠ t → cB M2 J (8 * u) (nB M u) = cB M J (8 * u) (nB M u) := fun u hu hne => cB_c _ _ (fun x x1 x2 => hB M M2 x (hm x (by have := nB8 hW (t := u) (by omega); have := nB8 hW (t := t) (by omega); omega)))
  have ts : tB M J (nT M) = tB M2 J (nT M) + m := tB_t h2B a4 (nT M) htT co
  have c1 : cB M1 J (8 * t) (nB M t) = cB M2 J (8 * t) (nB M t) := cB_c _ _ (fun x x1 x2 => by
    have h8 := nB8 hW (t := t) (by omega)
    have := g1 t (by omega) hj (x - 8 * t) (by omega)
    rw [show 8 * t + (x - 8 * t) = x by omega] at this
    exact hB M2 M1 x this)
  rw [h2T] at g5
  refine ⟨fun u hu hn b hb8 => ?_, n2, m2 + m, by omega, by rw [a2, e12, Nat.add_assoc], g4, by rw [ts, g5, Nat.add_assoc], ?_⟩
  · rw [g1 u hu (fun i x y => hn i (by omega) y) b hb8]
    have hut : u ≠ t := fun e => hn k (Nat.le_refl _) hk (by rw [ht, e])
    have h8 := nB8 hW (t := t) (by omega)
    exact hm _ (by omega)
  · rcases g6 with g6 | g6
    · exact Or.inl g6
    · rcases a5 with a5 | a5
      · exact Or.inl (by omega)
      · refine Or.inr (fun i x y => ?_)
        by_cases e : i = k
        · rw [e, ht, c1]; exact a5
        · have := g6 i (by omega) y
          rw [h2B] at this
          exact this
/-- what going has done from place k of the plan on -/
def goR (M M1 : zMs) (v : Nat) (bst : Nat → Nat) (k c : Nat) : Prop := kF M M1 ∧ (∀ u, u ≠ v → M1 49 u = M 49 u) ∧ (∀ u, u ≠ 2 * v → u ≠ 2 * v + 1 → M1 50 u = M 50 u) ∧ (∀ u, (∀ i, k ≤ i → i < c → bst i ≠ u) → M1 4 u = M 4 u) ∧ (∀ i, k ≤ i → i < c → M1 4 (bst i) = 0) ∧
  kdG M M1 (2 * v) 16 0 bst k c ∧ kdG M M1 (2 * v + 1) 15 1 bst k c
theorem mend_sw {v : Nat} (hv : v < 2) : ∀ (dd k fs fm : Nat) (S : zSt) (M : zMs), Tie S M → t < nT M → k + dd = nB M t → dd < fs → dd < fm → ∃ S1 M1, lp (bW9 t v) fs (nI k, S) = some S1 ∧ lp (bMe (nI v) (nI t) 0) fm (nI (8 * t + k), M) = some M1 ∧ Tie S1 M1 ∧ gF S S1 ∧ kF M M1 ∧ mdG M M1 (2 * v) 16 0 (8 * t + k) dd := by
  intro dd
  induction dd with
  | zero =>
    intro k fs fm S M h ht hk hfs hfm
    have h6 := nT6 h.1
    have h8 := nB8 h.1 (t := t) (by omega)
    obtain ⟨fs, rfl⟩ : ∃ f, fs = f + 1 := ⟨fs - 1, by omega⟩
    obtain ⟨fm, rfl⟩ : ∃ f, fm = f + 1 := ⟨fm - 1, by omega⟩
    obtain ⟨n, hn, e50⟩ := spare_n h.1 (i := 2 * v) (by omega)
    refine ⟨S, M, lp_e _ fs ?_, lp_e _ fm ?_, h, ⟨rfl, rfl⟩, fun _ _ => rfl, mdG_0 hn e50⟩
    · unfold bW9
      dsimp only
      rw [zLs_size (lsT h ht), cl_s, if_pos (nI_le (by omega) (by omega))]
    · unfold bMe
      dsimp only
      refine gd_of (nI_in (show t < 6 by omega) (by omega)) ?_
      refine if_pos ?_
      rw [nI_clamp (by omega), nB_e h.1 (by omega), ix8]
      exact nI_le (by omega) (by omega)
  | succ dd ih =>
    intro k fs fm S M h ht hk hfs hfm
    have h6 := nT6 h.1
    have h8 := nB8 h.1 (t := t) (by omega)
    have hk1 : k < nB M t := by omega
    obtain ⟨n, hn, e50⟩ := spare_n h.1 (i := 2 * v) (by omega)
    by_cases h0 : n = 0
    · refine ⟨S, M, sw_none h hv ht (by rw [e50, h0]; exact nI_0) (dd + 1) k fs hk hfs, ?_, h, ⟨rfl, rfl⟩, fun _ _ => rfl, mdG_n (by rw [e50, h0])⟩
      obtain ⟨fm, rfl⟩ : ∃ f, fm = f + 1 := ⟨fm - 1, by omega⟩
      refine lp_e _ fm ?_
      unfold bMe
      simp (disch := omega) only [Nat.add_sub_cancel, nI_0, c2I, c3I, c4I, c6I, c8I, c9I, c10I, c15I, c16I, c20I, c30I, c40I, c48I, c60I, c100I, c120I, c159I, c160I, c239I, c240I, c256I, c300I, c318I, c320I, c720I, c840I, c960I, c2520I, c36000I, c1048576I, nI_1, nI_add, pk_mul, nI_pred1, nI_pm1, pk_sub, pk_div, nI_clamp, nI_lz, nI_leI, nI_ltI, nI_eq, nI_z, nI_lez, nI_gez, nI_gtz, nI_m, nI_m2, nI_lem, nI_ltm, nleF, leT, ltT, ltF, eqT, eqF, false_or, or_false, not_false_eq_true, not_true_eq_false, gd_T, st_q, cl_q, cl2_q, cxr_q, cxl_q, i10, if_true, if_false, Bool.false_eq_true, nB_e h.1 (show t < 6 by omega), e50, Int32.add_zero]
    · obtain ⟨fs, rfl⟩ : ∃ f, fs = f + 1 := ⟨fs - 1, by omega⟩
      obtain ⟨fm, rfl⟩ : ∃ f, fm = f + 1 := ⟨fm - 1, by omega⟩
      obtain ⟨s5, s6⟩ := sw_eq h ht hk1
      have ge : ¬ nI (nB M t) ≤ nI k := nI_ge hk1 (by omega)
      have e20 : zI S (20, v, 0) 0 = nI n := by
        have := spare_eq h hv (k := 0) (by omega)
        rw [this, Nat.add_zero, e50]
      have tk : fX8_takeSpare S v 0 = some (1, pI S (20, v, 0) 0 (nI (n - 1))) := by
        rcases take9 (S := S) (a := v) (k := 0) (n := n) (by omega) e20 with q | q
        · rw [nI_0, if_neg h0, nI_pm1 (by omega)] at q; exact q
        · omega
      have hbad := isBad_eq M 0 (i := 8 * t + k) (by omega)
      have hbB : bB M 0 (8 * t + k) = decide (M 16 (8 * t + k) ≠ -1) := rfl
      obtain ⟨w1, w2, w3, w4, w5, w6, w7⟩ := h.1
      obtain ⟨-, -, -, -, -, r6⟩ := (w6 t k (by omega) (by omega)).1 hk1
      have hS6 := nS60 h.1
      rcases r6 with r6 | ⟨st, hst, r6⟩
      · -- it does not stick
        have b1 : bW9 t v (nI k, S) = some (.inl (nI (k + 1), S)) := by
          unfold bW9
          simp only [zLs_size (lsT h ht), cl_q, ge, if_false, zLs_get (lsT h ht) (show nB M t ≤ 64 by omega) hk1, st_q, s6, r6, show ((-1 : Int32) < 0) = True from eq_true (by decide), if_true, nI_1]
        have b2 : bMe (nI v) (nI t) 0 (nI (8 * t + k), M) = some (.inl (nI (8 * t + (k + 1)), M)) := by
          rw [hbB, r6, decide_eq_false (fun q => q rfl), if_neg (by decide)] at hbad
          unfold bMe
          simp (disch := omega) only [Nat.add_sub_cancel, nI_0, c2I, c3I, c4I, c6I, c8I, c9I, c10I, c15I, c16I, c20I, c30I, c40I, c48I, c60I, c100I, c120I, c159I, c160I, c239I, c240I, c256I, c300I, c318I, c320I, c720I, c840I, c960I, c2520I, c36000I, c1048576I, nI_1, nI_add, pk_mul, nI_pred1, nI_pm1, pk_sub, pk_div, nI_clamp, nI_lz, nI_leI, nI_ltI, nI_eq, nI_z, nI_lez, nI_gez, nI_gtz, nI_m, nI_m2, nI_lem, nI_ltm, nleF, leT, ltT, ltF, eqT, eqF, false_or, or_false, not_false_eq_true, not_true_eq_false, gd_T, st_q, cl_q, cl2_q, cxr_q, cxl_q, i10, if_true, if_false, Bool.false_eq_true, nB_e h.1 (show t < 6 by omega), e50, Int32.add_zero, hbad]
          rfl
        rw [lp_s _ fs b1, lp_s _ fm b2]
        obtain ⟨S1, M1, c1, c2, c3, c4, c5, c6⟩ := ih (k + 1) fs fm S M h ht (by omega) (by omega) (by omega)
        refine ⟨S1, M1, c1, c2, c3, c4, c5, mdG_s bB_16 c6 ?_⟩
        rw [hbB, r6, decide_eq_false (fun q => q rfl)]
      · have hst60 : st < 60 := by omega
        have t1 := tw_spare h hv (k := 0) (n := n - 1) (by omega) (by omega)
        rw [Nat.add_zero] at t1
        have t2 := tw_men t1 hst60
        have t3 := tw_free (b := k) t2 ht hk1
        have b1 : bW9 t v (nI k, S) = some (.inl (nI (k + 1), pI (pI (pI S (20, v, 0) 0 (nI (n - 1))) (21, 0, 0) st 1) (2, t, k) 6 (-1))) := by
          unfold bW9
          simp (disch := omega) only [Nat.add_sub_cancel, nI_0, c2I, c3I, c4I, c6I, c8I, c9I, c10I, c15I, c16I, c20I, c30I, c40I, c48I, c60I, c100I, c120I, c159I, c160I, c239I, c240I, c256I, c300I, c318I, c320I, c720I, c840I, c960I, c2520I, c36000I, c1048576I, nI_1, nI_add, pk_mul, nI_pred1, nI_pm1, pk_sub, pk_div, nI_clamp, nI_lz, nI_leI, nI_ltI, nI_eq, nI_z, nI_lez, nI_gez, nI_gtz, nI_m, nI_m2, nI_lem, nI_ltm, nleF, leT, ltT, ltF, eqT, eqF, false_or, or_false, not_false_eq_true, not_true_eq_false, gd_T, st_q, cl_q, cl2_q, cxr_q, cxl_q, i10, if_true, if_false, Bool.false_eq_true, zLs_size (lsT h ht), ge, zLs_get (lsT h ht) (show nB M t ≤ 64 by omega) hk1, s6, r6, tk, nar1]
        have b2 : bMe (nI v) (nI t) 0 (nI (8 * t + k), M) = some (.inl (nI (8 * t + (k + 1)), pM (pM (pM M 50 (2 * v) (nI (n - 1))) 23 st 1) 16 (8 * t + k) (-1))) := by
          rw [hbB, r6, decide_eq_true (of_eq_false (nI_m (show st < 2 ^ 31 by omega))), if_pos rfl] at hbad
          unfold bMe
          simp (disch := omega) only [Nat.add_sub_cancel, nI_0, c2I, c3I, c4I, c6I, c8I, c9I, c10I, c15I, c16I, c20I, c30I, c40I, c48I, c60I, c100I, c120I, c159I, c160I, c239I, c240I, c256I, c300I, c318I, c320I, c720I, c840I, c960I, c2520I, c36000I, c1048576I, nI_1, nI_add, pk_mul, nI_pred1, nI_pm1, pk_sub, pk_div, nI_clamp, nI_lz, nI_leI, nI_ltI, nI_eq, nI_z, nI_lez, nI_gez, nI_gtz, nI_m, nI_m2, nI_lem, nI_ltm, nleF, leT, ltT, ltF, eqT, eqF, false_or, or_false, not_false_eq_true, not_true_eq_false, gd_T, st_q, cl_q, cl2_q, cxr_q, cxl_q, i10, if_true, if_false, Bool.false_eq_true, nB_e h.1 (show t < 6 by omega), e50, Int32.add_zero, hbad, pM_s, pMn, r6, nar1]
          rfl
        rw [lp_s _ fs b1, lp_s _ fm b2]
        obtain ⟨S1, M1, c1, c2, c3, c4, c5, c6⟩ := ih (k + 1) fs fm _ _ t3 ht (by show k + 1 + dd = nB M t; omega) (by omega) (by omega)
        refine ⟨S1, M1, c1, c2, c3, gF_t (gF_t (gF_t (gF_p (show (20 : Nat) ≠ 5 by decide) (show (20 : Nat) ≠ 19 by decide) _ _) (gF_p (show (21 : Nat) ≠ 5 by decide) (show (21 : Nat) ≠ 19 by decide) _ _)) (gF_p (show (2 : Nat) ≠ 5 by decide) (show (2 : Nat) ≠ 19 by decide) _ _)) c4, kF_t (kF_t (kF_t (kF_p (by omega) _ _) (kF_p (by omega) _ _)) (kF_p (by omega) _ _)) c5, mdG_d (n := n) (by omega) bB_16 c6 (by rw [hbB, r6]; exact decide_eq_true (of_eq_false (nI_m (show st < 2 ^ 31 by omega)))) ?_ h0 hn e50 ?_ (fun u hu => ?_) (fun k' x1 x2 x3 => ?_) (fun u hu => ?_)⟩
        · show decide (pM (pM (pM M 50 (2 * v) (nI (n - 1))) 23 st 1) 16 (8 * t + k) (-1) 16 (8 * t + k) ≠ -1) = false
          rw [pM_s]
          exact decide_eq_false (fun q => q rfl)
        · rw [pMn (by decide), pMn (by decide), pM_s]
        · rw [pMn (by decide), pMn (by decide), pMi hu]
        · rw [pMn x1, pMn x2, pMn x3]
        · rw [pMi hu, pMn (by decide), pMn (by decide)]
theorem mend_co {v : Nat} (hv : v < 2) : ∀ (dd k fs fm : Nat) (S : zSt) (M : zMs), Tie S M → t < nT M → k + dd = nB M t → dd < fs → dd < fm → ∃ S1 M1, lp (bC9 t v) fs (nI k, S) = some S1 ∧ lp (bMe (nI v) (nI t) 1) fm (nI (8 * t + k), M) = some M1 ∧ Tie S1 M1 ∧ gF S S1 ∧ kF M M1 ∧ mdG M M1 (2 * v + 1) 15 1 (8 * t + k) dd := by
  intro dd
  induction dd with
  | zero =>
    intro k fs fm S M h ht hk hfs hfm
    have h6 := nT6 h.1
    have h8 := nB8 h.1 (t := t) (by omega)
    obtain ⟨fs, rfl⟩ : ∃ f, fs = f + 1 := ⟨fs - 1, by omega⟩
    obtain ⟨fm, rfl⟩ : ∃ f, fm = f + 1 := ⟨fm - 1, by omega⟩
    obtain ⟨n, hn, e50⟩ := spare_n h.1 (i := 2 * v + 1) (by omega)
    refine ⟨S, M, lp_e _ fs ?_, lp_e _ fm ?_, h, ⟨rfl, rfl⟩, fun _ _ => rfl, mdG_0 hn e50⟩
    · unfold bC9
      dsimp only
      rw [zLs_size (lsT h ht), cl_s, if_pos (nI_le (by omega) (by omega))]
    · unfold bMe
      dsimp only
      refine gd_of (nI_in (show t < 6 by omega) (by omega)) ?_
      refine if_pos ?_
      rw [nI_clamp (by omega), nB_e h.1 (by omega), ix8]
      exact nI_le (by omega) (by omega)
  | succ dd ih =>
    intro k fs fm S M h ht hk hfs hfm
    have h6 := nT6 h.1
    have h8 := nB8 h.1 (t := t) (by omega)
    have hk1 : k < nB M t := by omega
    obtain ⟨n, hn, e50⟩ := spare_n h.1 (i := 2 * v + 1) (by omega)
    have i1 : nI (2 * v) + 1 = nI (2 * v + 1) := nI_1 _
    by_cases h0 : n = 0
    · refine ⟨S, M, coil_none h hv ht (by rw [e50, h0]; exact nI_0) (dd + 1) k fs hk hfs, ?_, h, ⟨rfl, rfl⟩, fun _ _ => rfl, mdG_n (by rw [e50, h0])⟩
      obtain ⟨fm, rfl⟩ : ∃ f, fm = f + 1 := ⟨fm - 1, by omega⟩
      refine lp_e _ fm ?_
      unfold bMe
      simp (disch := omega) only [Nat.add_sub_cancel, nI_0, c2I, c3I, c4I, c6I, c8I, c9I, c10I, c15I, c16I, c20I, c30I, c40I, c48I, c60I, c100I, c120I, c159I, c160I, c239I, c240I, c256I, c300I, c318I, c320I, c720I, c840I, c960I, c2520I, c36000I, c1048576I, nI_1, nI_add, pk_mul, nI_pred1, nI_pm1, pk_sub, pk_div, nI_clamp, nI_lz, nI_leI, nI_ltI, nI_eq, nI_z, nI_lez, nI_gez, nI_gtz, nI_m, nI_m2, nI_lem, nI_ltm, nleF, leT, ltT, ltF, eqT, eqF, false_or, or_false, not_false_eq_true, not_true_eq_false, gd_T, st_q, cl_q, cl2_q, cxr_q, cxl_q, i10, if_true, if_false, Bool.false_eq_true, nB_e h.1 (show t < 6 by omega), e50, i1]
    · obtain ⟨fs, rfl⟩ : ∃ f, fs = f + 1 := ⟨fs - 1, by omega⟩
      obtain ⟨fm, rfl⟩ : ∃ f, fm = f + 1 := ⟨fm - 1, by omega⟩
      obtain ⟨s5, s6⟩ := sw_eq h ht hk1
      have ge : ¬ nI (nB M t) ≤ nI k := nI_ge hk1 (by omega)
      have e20 : zI S (20, v, 0) 1 = nI n := by
        have := spare_eq h hv (k := 1) (by omega)
        rw [this, e50]
      have tk : fX8_takeSpare S v 1 = some (1, pI S (20, v, 0) 1 (nI (n - 1))) := by
        rcases take9 (S := S) (a := v) (k := 1) (n := n) (by omega) e20 with q | q
        · rw [if_neg h0, nI_pm1 (by omega)] at q; exact q
        · omega
      have hB : fX1_isBroken S t k = some (if M 15 (8 * t + k) < 40 then 0 else 1) := by
        unfold fX1_isBroken
        rw [s5]
        by_cases e : M 15 (8 * t + k) < 40
        · rw [if_pos e, if_pos e]
        · rw [if_neg e, if_neg e]
      have hbad := isBad_eq M 1 (i := 8 * t + k) (by omega)
      have hbB : bB M 1 (8 * t + k) = decide (¬ M 15 (8 * t + k) < 40) := rfl
      by_cases h15 : M 15 (8 * t + k) < 40
      · have b1 : bC9 t v (nI k, S) = some (.inl (nI (k + 1), S)) := by
          unfold bC9
          simp only [zLs_size (lsT h ht), cl_q, ge, if_false, zLs_get (lsT h ht) (show nB M t ≤ 64 by omega) hk1, st_q, hB, h15, if_true, nI_1]
        have b2 : bMe (nI v) (nI t) 1 (nI (8 * t + k), M) = some (.inl (nI (8 * t + (k + 1)), M)) := by
          rw [hbB, decide_eq_false (fun q => q h15), if_neg (by decide)] at hbad
          unfold bMe
          simp (disch := omega) only [Nat.add_sub_cancel, nI_0, c2I, c3I, c4I, c6I, c8I, c9I, c10I, c15I, c16I, c20I, c30I, c40I, c48I, c60I, c100I, c120I, c159I, c160I, c239I, c240I, c256I, c300I, c318I, c320I, c720I, c840I, c960I, c2520I, c36000I, c1048576I, nI_1, nI_add, pk_mul, nI_pred1, nI_pm1, pk_sub, pk_div, nI_clamp, nI_lz, nI_leI, nI_ltI, nI_eq, nI_z, nI_lez, nI_gez, nI_gtz, nI_m, nI_m2, nI_lem, nI_ltm, nleF, leT, ltT, ltF, eqT, eqF, false_or, or_false, not_false_eq_true, not_true_eq_false, gd_T, st_q, cl_q, cl2_q, cxr_q, cxl_q, i10, if_true, if_false, Bool.false_eq_true, nB_e h.1 (show t < 6 by omega), e50, i1, hbad]
          rfl
        rw [lp_s _ fs b1, lp_s _ fm b2]
        obtain ⟨S1, M1, c1, c2, c3, c4, c5, c6⟩ := ih (k + 1) fs fm S M h ht (by omega) (by omega) (by omega)
        refine ⟨S1, M1, c1, c2, c3, c4, c5, mdG_s bB_15 c6 ?_⟩
        rw [hbB, decide_eq_false (fun q => q h15)]
      · have t1 := tw_spare h hv (k := 1) (n := n - 1) (by omega) (by omega)
        have t3 := tw_wear (b := k) t1 ht hk1 0
        have b1 : bC9 t v (nI k, S) = some (.inl (nI (k + 1), pI (pI S (20, v, 0) 1 (nI (n - 1))) (2, t, k) 5 0)) := by
          unfold bC9
          simp only [zLs_size (lsT h ht), cl_q, ge, if_false, zLs_get (lsT h ht) (show nB M t ≤ 64 by omega) hk1, st_q, hB, h15, i10, tk, cl2_q, nI_1]
        have b2 : bMe (nI v) (nI t) 1 (nI (8 * t + k), M) = some (.inl (nI (8 * t + (k + 1)), pM (pM M 50 (2 * v + 1) (nI (n - 1))) 15 (8 * t + k) 0)) := by
          rw [hbB, decide_eq_true h15, if_pos rfl] at hbad
          unfold bMe
          simp (disch := omega) only [Nat.add_sub_cancel, nI_0, c2I, c3I, c4I, c6I, c8I, c9I, c10I, c15I, c16I, c20I, c30I, c40I, c48I, c60I, c100I, c120I, c159I, c160I, c239I, c240I, c256I, c300I, c318I, c320I, c720I, c840I, c960I, c2520I, c36000I, c1048576I, nI_1, nI_add, pk_mul, nI_pred1, nI_pm1, pk_sub, pk_div, nI_clamp, nI_lz, nI_leI, nI_ltI, nI_eq, nI_z, nI_lez, nI_gez, nI_gtz, nI_m, nI_m2, nI_lem, nI_ltm, nleF, leT, ltT, ltF, eqT, eqF, false_or, or_false, not_false_eq_true, not_true_eq_false, gd_T, st_q, cl_q, cl2_q, cxr_q, cxl_q, i10, if_true, if_false, Bool.false_eq_true, nB_e h.1 (show t < 6 by omega), e50, i1, hbad, pM_s, pMn]
          rfl
        rw [lp_s _ fs b1, lp_s _ fm b2]
        obtain ⟨S1, M1, c1, c2, c3, c4, c5, c6⟩ := ih (k + 1) fs fm _ _ t3 ht (by show k + 1 + dd = nB M t; omega) (by omega) (by omega)
        refine ⟨S1, M1, c1, c2, c3, gF_t (gF_t (gF_p (show (20 : Nat) ≠ 5 by decide) (show (20 : Nat) ≠ 19 by decide) _ _) (gF_p (show (2 : Nat) ≠ 5 by decide) (show (2 : Nat) ≠ 19 by decide) _ _)) c4, kF_t (kF_t (kF_p (by omega) _ _) (kF_p (by omega) _ _)) c5, mdG_d (n := n) (by omega) bB_15 c6 (by rw [hbB]; exact decide_eq_true h15) ?_ h0 hn e50 ?_ (fun u hu => ?_) (fun k' x1 x2 x3 => ?_) (fun u hu => ?_)⟩
        · show decide (¬ pM (pM M 50 (2 * v + 1) (nI (n - 1))) 15 (8 * t + k) 0 15 (8 * t + k) < 40) = false
          rw [pM_s]
          exact decide_eq_false (fun q => q (by decide))
        · rw [pMn (by decide), pM_s]
        · rw [pMn (by decide), pMi hu]
        · rw [pMn x1, pMn x3]
        · rw [pMi hu, pMn (by decide)]
theorem cxlr_q {α β σ : Type} (v : α) (k : α → Option (σ ⊕ ((Nat × zSt) ⊕ β))) : cxl (some (.inr v)) k = k v := Eq.trans rfl rfl
theorem go_lp {v : Nat} (hv : v < 2) (h6 : c ≤ 6) {bst : Nat → Nat} : ∀ (dd k fs fm : Nat) (S : zSt) (M : zMs) (x : Int32), Tie S M → k + dd = c → dd < fs → dd < fm → zI S (5, 0, 0) 3 = nI c → M 51 0 = nI c → (∀ k, k < c → bst k < nT M ∧ zI S (19, 0, 0) k = nI (bst k) ∧ M 53 k = nI (bst k)) → M 0 0 = 0 → (∀ i j, i < c → j < c → bst i = bst j → i = j) →
    ∃ S1 M1 y, lp (bGo9 v) fs (x, nI k, S) = some (.inr (y, S1)) ∧ lp (bGo10 (nI v)) fm (x, nI k, M) = some (y, M1) ∧ Tie S1 M1 ∧ M1 0 0 = 0 ∧ y = gS M bst x k dd ∧ goR M M1 v bst k c := by
  intro dd
  induction dd with
  | zero =>
    intro k fs fm S M x h hk hfs hfm h5 h51 hb h00 hinj
    obtain ⟨fs, rfl⟩ : ∃ f, fs = f + 1 := ⟨fs - 1, by omega⟩
    obtain ⟨fm, rfl⟩ : ∃ f, fm = f + 1 := ⟨fm - 1, by omega⟩
    have hkc : k = c := by omega
    obtain ⟨n0, hn0, e0⟩ := spare_n h.1 (i := 2 * v) (by omega)
    obtain ⟨n1, hn1, e1⟩ := spare_n h.1 (i := 2 * v + 1) (by omega)
    refine ⟨S, M, x, lp_e _ fs ?_, lp_e _ fm ?_, h, h00, rfl, fun _ _ => rfl, fun _ _ => rfl, fun _ _ _ => rfl, fun _ _ => rfl, fun i a b => by omega, by rw [hkc]; exact kdG_0 hn0 e0, by rw [hkc]; exact kdG_0 hn1 e1⟩
    · unfold bGo9
      dsimp only
      rw [if_pos (by rw [h5]; exact nI_le (by omega) (by omega))]
    · unfold bGo10
      dsimp only
      rw [if_pos (by rw [h51]; exact nI_le (by omega) (by omega))]
  | succ dd ih =>
    intro k fs fm S M x h hk hfs hfm h5 h51 hb h00 hinj
    obtain ⟨fs, rfl⟩ : ∃ f, fs = f + 1 := ⟨fs - 1, by omega⟩
    obtain ⟨fm, rfl⟩ : ∃ f, fm = f + 1 := ⟨fm - 1, by omega⟩
    have hk1 : k < c := by omega
    obtain ⟨ht, b19, b53⟩ := hb k hk1
    have hT6 := nT6 h.1
    generalize ht0 : bst k = t at *
    have z5 : zI S (8, t, 0) 5 = M 4 t := ag h 4 t ht
    have z6 : zI S (8, t, 0) 6 = M 5 t := ag h 5 t ht
    have z7 : zI S (8, t, 0) 7 = M 6 t := ag h 6 t ht
    have t1 := tw_miss h ht (M 6 t + (M 5 t - M 4 t))
    have t2 := tw_bro (t := t) t1 ht 0
    have t3 := tw_box (t := t) t2 ht 0
    rw [pM_comm (show 5 ≠ 4 by decide)] at t3
    obtain ⟨S2, M2, d1, d2, d3, d4, d5, d6⟩ := mend_sw (t := t) hv (nB M t) 0 40000 40000 _ _ t3 ht (by show 0 + nB M t = nB M t; omega) (by have := nB8 h.1 (t := t) (by omega); omega) (by have := nB8 h.1 (t := t) (by omega); omega)
    have ht2 : t < nT M2 := by rw [kF_nT d5]; exact ht
    have hB2 : nB M2 t = nB M t := kF_nB d5 t
    obtain ⟨S3, M3, f1, f2, f3, f4, f5, f6⟩ := mend_co (t := t) hv (nB M2 t) 0 40000 40000 _ _ d3 ht2 (by omega) (by have := nB8 h.1 (t := t) (by omega); omega) (by have := nB8 h.1 (t := t) (by omega); omega)
    have ht3 : t < nT M3 := by rw [kF_nT f5]; exact ht2
    obtain ⟨w1, w2, w3, w4, w5, w6⟩ := h.1
    obtain ⟨s, -, hs, es⟩ := (w5 t ht).1
    have K3 : kF M M3 := kF_t (kF_t (kF_t (kF_t (kF_p (by omega) _ _) (kF_p (by omega) _ _)) (kF_p (by omega) _ _)) d5) f5
    have m2 : M3 2 t = nI s := by rw [K3 2 (by omega)]; exact es
    have z0 : zI S3 (8, t, 0) 0 = nI s := (ag f3 2 t ht3).trans m2
    have t5 := tw_site (a := v) f3 hs
    have G3 : gF S S3 := gF_t (gF_t (gF_t (gF_t (gF_p (show (8 : Nat) ≠ 5 by decide) (show (8 : Nat) ≠ 19 by decide) _ _) (gF_p (show (8 : Nat) ≠ 5 by decide) (show (8 : Nat) ≠ 19 by decide) _ _)) (gF_p (show (8 : Nat) ≠ 5 by decide) (show (8 : Nat) ≠ 19 by decide) _ _)) d4) f4
    have G4 : gF S (pI S3 (9, v, 0) 1 (nI s)) := gF_t G3 (gF_p (show (9 : Nat) ≠ 5 by decide) (show (9 : Nat) ≠ 19 by decide) _ _)
    have K4 : kF M (pM M3 49 v (nI s)) := kF_t K3 (kF_p (by omega) _ _)
    have l6 : ¬ (6 : Int32) ≤ nI k := by rw [c6I]; exact nI_ge (by omega) (by omega)
    have ge : ¬ nI c ≤ nI k := nI_ge hk1 (by omega)
    have tab : fX4_tableOf S (nI k) = some (nI t) := by
      unfold fX4_tableOf
      simp (disch := omega) only [Nat.add_sub_cancel, nI_0, c2I, c3I, c4I, c6I, c8I, c9I, c10I, c15I, c16I, c20I, c30I, c40I, c48I, c60I, c100I, c120I, c159I, c160I, c239I, c240I, c256I, c300I, c318I, c320I, c720I, c840I, c960I, c2520I, c36000I, c1048576I, nI_1, nI_add, pk_mul, nI_pred1, nI_pm1, pk_sub, pk_div, nI_clamp, nI_lz, nI_leI, nI_ltI, nI_eq, nI_z, nI_lez, nI_gez, nI_gtz, nI_m, nI_m2, nI_lem, nI_ltm, nleF, leT, ltT, ltF, eqT, eqF, false_or, or_false, not_false_eq_true, not_true_eq_false, gd_T, st_q, cl_q, cl2_q, cxr_q, cxl_q, i10, if_true, if_false, Bool.false_eq_true, h5, b19]
    have emp : fX7_emptyBox S t = some (M 4 t, pI (pI (pI S (8, t, 0) 7 (M 6 t + (M 5 t - M 4 t))) (8, t, 0) 6 0) (8, t, 0) 5 0) := by
      unfold fX7_emptyBox
      rw [st_s, st_s, st_s, st_s, z5, z6, z7]
    have msw : ∀ A B : zSt, lp (bW9 t v) 40000 (nI 0, A) = some B → fX9_mendSwitches A t v = some B := fun A B q => by
      unfold fX9_mendSwitches
      rw [st_s, ← nI_0]
      exact q
    have mco : ∀ A B : zSt, lp (bC9 t v) 40000 (nI 0, A) = some B → fX9_mendCoils A t v = some B := fun A B q => by
      unfold fX9_mendCoils
      rw [st_s, ← nI_0]
      exact q
    have men : ∀ (A B : zMs) (j : Int32), lp (bMe (nI v) (nI t) j) 40000 (nI (8 * t + 0), A) = some B → fX10_mend A (nI v) (nI t) j = some B := fun A B j q => by
      unfold fX10_mend
      have e : (8 : Int32) * nI t = nI (8 * t + 0) := by rw [c8I, pk_mul]; rfl
      rw [← e] at q
      rw [st_s]
      exact q
    have e1 : bGo9 v (x, nI k, S) = some (.inl (x + M 4 t, nI (k + 1), pI S3 (9, v, 0) 1 (nI s))) := by
      unfold bGo9
      simp only [h5, ge, if_false, tab, cl_q, dT_in h ht, cxlr_q, emp, cl2_q, st_q, msw _ _ d1, mco _ _ f1, z0, nI_1]
    have ct : (nI t).toNatClampNeg = t := nI_clamp (by omega)
    have cv : (nI v).toNatClampNeg = v := nI_clamp (by omega)
    have ck : (nI k).toNatClampNeg = k := nI_clamp (by omega)
    have g6t : ¬ 6 ≤ t := by omega
    have g6k : ¬ 6 ≤ k := by omega
    have g2v : ¬ 2 ≤ v := by omega
    have e2 : bGo10 (nI v) (x, nI k, M) = some (.inl (x + M 4 t, nI (k + 1), pM M3 49 v (nI s))) := by
      unfold bGo10
      simp (disch := omega) only [h51, ge, if_false, ck, ct, cv, nI_pos (show k < 2 ^ 31 by omega), nI_pos (show t < 2 ^ 31 by omega), nI_pos (show v < 2 ^ 31 by omega), false_or, g6t, g6k, g2v, not_false_eq_true, gd_T, b53, st_q, men _ _ 0 d2, men _ _ 1 f2, cl_q, m2, nI_1]
    rw [lp_s _ fs e1, lp_s _ fm e2]
    obtain ⟨S9, M9, y9, j1, j2, j3, j4, j5, jA, jC, jD, jE, jF, jG, jH⟩ := ih (k + 1) fs fm _ _ _ t5 (by omega) (by omega) (by omega) (by rw [G4.1]; exact h5) (by rw [K4 51 (by omega)]; exact h51) (fun q hq => by rw [kF_nT K4, G4.2, K4 53 (by omega)]; exact hb q hq) (by rw [K4 0 (by omega)]; exact h00) hinj
    rw [hB2] at f6
    have hne : ∀ i, k + 1 ≤ i → i < c → bst i ≠ t := fun i a b q => by have := hinj i k b hk1 (by rw [q, ht0]); omega
    have n8 : nB M t = nB (pM (pM (pM M 6 t (M 6 t + (M 5 t - M 4 t))) 4 t 0) 5 t 0) t := rfl
    obtain ⟨x1, x2, x3, x4⟩ := d6
    obtain ⟨z1, z2, z3, z4⟩ := f6
    have o4 : ∀ u, pM M3 49 v (nI s) 4 u = if u = t then 0 else M 4 u := fun u => by
      rw [pMn (by decide), z2 4 (by decide) (by decide) (by decide), x2 4 (by decide) (by decide) (by decide), pMn (by decide), pM_at]
      by_cases e : u = t
      · rw [if_pos ⟨rfl, e⟩, if_pos e]
      · rw [if_neg (fun q => e q.2), if_neg e, pMn (by decide)]
    refine ⟨S9, M9, y9, j1, j2, j3, j4, ?_, kF_t K4 jA, fun u hu => ?_, fun u hu hu1 => ?_, fun u hu => ?_, fun i a b => ?_, ?_, ?_⟩
    · rw [j5]
      show gS (pM M3 49 v (nI s)) bst (x + M 4 t) (k + 1) dd = gS M bst (x + M 4 (bst k)) (k + 1) dd
      rw [ht0]
      exact gS_c dd (k + 1) _ (fun i a b => by rw [o4, if_neg (hne i a (by omega))])
    · rw [jC u hu, pMi hu, z2 49 (by decide) (by decide) (by decide), x2 49 (by decide) (by decide) (by decide), pMn (by decide), pMn (by decide), pMn (by decide)]
    · rw [jD u hu hu1, pMn (by decide), z1 u hu1, x1 u hu, pMn (by decide), pMn (by decide), pMn (by decide)]
    · rw [jE u (fun i a b => hu i (by omega) b), o4, if_neg (fun e => hu k (Nat.le_refl _) hk1 (by rw [ht0, e]))]
    · by_cases e : i = k
      · rw [e, ht0, jE t (fun i a b => hne i a b), o4, if_pos rfl]
      · exact jF i (by omega) b
    · refine kdG_s (M2 := pM M3 49 v (nI s)) (t := t) (by decide) bB_16 h.1 hne hk1 ht0 ht (kF_nT K4) (kF_nB K4) (fun u => (kF_nB jA u).trans (kF_nB K4 u)) (fun _ _ => trivial) (fun i a b => (hb i b).1) (fun u hu => ?_) ?_ jG
      · rw [pMn (by decide), z2 16 (by decide) (by decide) (by decide), x3 u (by omega), pMn (by decide), pMn (by decide), pMn (by decide)]
      · obtain ⟨n1, m, p1, p2, p3, p4, p5⟩ := x4
        rw [Nat.add_zero] at p4 p5
        have ca : cB (pM M3 49 v (nI s)) 0 (8 * t) (nB M t) = cB M2 0 (8 * t) (nB M t) := cB_c _ _ (fun u _ _ => bB_16 _ _ u (by rw [pMn (by decide), z2 16 (by decide) (by decide) (by decide)]))
        have cb : cB M 0 (8 * t) (nB M t) = cB (pM (pM (pM M 6 t (M 6 t + (M 5 t - M 4 t))) 4 t 0) 5 t 0) 0 (8 * t) (nB M t) := cB_c _ _ (fun u _ _ => bB_16 _ _ u (by rw [pMn (by decide), pMn (by decide), pMn (by decide)]))
        refine ⟨n1, m, p1, ?_, ?_, ?_, ?_⟩
        · rw [← p2, pMn (by decide), pMn (by decide), pMn (by decide)]
        · rw [pMn (by decide), z1 _ (by omega)]; exact p3
        · rw [ca, cb]; exact p4
        · rw [ca]; exact p5
    · refine kdG_s (M2 := pM M3 49 v (nI s)) (t := t) (by decide) bB_15 h.1 hne hk1 ht0 ht (kF_nT K4) (kF_nB K4) (fun u => (kF_nB jA u).trans (kF_nB K4 u)) (fun _ _ => trivial) (fun i a b => (hb i b).1) (fun u hu => ?_) ?_ jH
      · rw [pMn (by decide), z3 u (by omega), x2 15 (by decide) (by decide) (by decide), pMn (by decide), pMn (by decide), pMn (by decide)]
      · obtain ⟨n1, m, p1, p2, p3, p4, p5⟩ := z4
        rw [Nat.add_zero] at p4 p5
        have ca : cB (pM M3 49 v (nI s)) 1 (8 * t) (nB M t) = cB M3 1 (8 * t) (nB M t) := cB_c _ _ (fun u _ _ => bB_15 _ _ u (by rw [pMn (by decide)]))
        have cb : cB M 1 (8 * t) (nB M t) = cB M2 1 (8 * t) (nB M t) := cB_c _ _ (fun u _ _ => bB_15 _ _ u (by rw [x2 15 (by decide) (by decide) (by decide), pMn (by decide), pMn (by decide), pMn (by decide)]))
        refine ⟨n1, m, p1, ?_, ?_, ?_, ?_⟩
        · rw [← p2, x1 _ (by omega), pMn (by decide), pMn (by decide), pMn (by decide)]
        · rw [pMn (by decide)]; exact p3
        · rw [ca, cb]; exact p4
        · rw [ca]; exact p5
theorem go_eq (h : Tie S M) {v : Nat} (hv : v < 2) : ∃ S1 M1, fX4_search S (zI S (9, v, 0) 1) = some S1 ∧ fX10_makePlan M (nI v) = some M1 ∧ Tie S1 M1 ∧ qF M M1 ∧ zI S1 (5, 0, 0) 3 = nI (gaP (needB M) (nT M)).1 ∧ M1 51 0 = nI (gaP (needB M) (nT M)).1 ∧ ∃ a bst, a ≤ 100 ∧ M 49 v = nI a ∧ Pm (gaP (needB M) (nT M)).1 (fun t => needB M t = true) bst ∧ (∀ k, k < (gaP (needB M) (nT M)).1 → bst k < nT M ∧ M1 53 k = nI (bst k)) ∧ M1 54 0 = nI (msP (fun t => (M 2 t).toNatClampNeg) bst a (gaP (needB M) (nT M)).1).1 ∧
    ∃ S2 M2, lp (bGo9 v) 40000 (0, 0, S1) = some (.inr (gS M bst 0 0 (gaP (needB M) (nT M)).1, S2)) ∧ lp (bGo10 (nI v)) 40000 (0, 0, pM M1 0 0 0) = some (gS M bst 0 0 (gaP (needB M) (nT M)).1, M2) ∧ Tie S2 M2 ∧ M2 0 0 = 0 ∧ goR (pM M1 0 0 0) M2 v bst 0 (gaP (needB M) (nT M)).1 := by
  obtain ⟨S1, M1, e9, e10, ⟨p1, p2, ⟨bst9, p3⟩, -, p6, p7⟩, a, ha, e49, bst, q1, q2, q3⟩ := search_eq2 h hv
  have hc := gaP_le (needB M) (nT M)
  have h6 := nT6 h.1
  have eT : nT M1 = nT M := by unfold nT; rw [p7 1 (by omega) (by omega) (by omega) (by omega)]
  generalize (gaP (needB M) (nT M)).1 = c at *
  have h1 := tie_hid h (pF_h p6) (qF_e p7)
  have hbT : ∀ k, k < c → bst k < nT M := fun k hk => (of_decide_eq_true (q1.2.1 k hk)).1
  have h9 : ∀ k, k < c → zI S1 (19, 0, 0) k = nI (bst k) := fun k hk => (p3 k hk).2.1.trans ((p3 k hk).2.2.symm.trans (q2 k hk))
  obtain ⟨S2, M2, y, g1, g2, g3, g4, g5, g6⟩ := go_lp (c := c) (bst := bst) hv (by omega) c 0 40000 40000 S1 (pM M1 0 0 0) 0 (tie_ref h1 0) (by omega) (by omega) (by omega) p1 p2 (fun k hk => ⟨by show bst k < nT M1; rw [eT]; exact hbT k hk, h9 k hk, q2 k hk⟩) rfl q1.1
  rw [nI_0] at g1 g2
  have ey : y = gS M bst 0 0 c := by
    rw [g5]
    exact gS_c c 0 0 (fun i _ _ => by rw [pMn (by decide), p7 4 (by omega) (by omega) (by omega) (by omega)])
  rw [ey] at g1 g2
  exact ⟨S1, M1, e9, e10, h1, p7, p1, p2, a, bst, ha, e49, q1, fun k hk => ⟨hbT k hk, q2 k hk⟩, q3, S2, M2, g1, g2, g3, g4, g6⟩
theorem ok_go (S : zSt) (M : zMs) (i : Int32) (h : Tie S M) : zOk Tie [1, 3] (fun y : (Int32 × zSt) => (y.1).toInt64) (fun y : (Int32 × zSt) => y.2) (fX9_go S i) (fun b : Int32 => b.toInt64) (fX10_go M i) := by
  rcases van_d (S := S) (M := M) i with ⟨v, hv, rfl⟩ | ⟨e1, e2⟩
  · obtain ⟨S1, M1, e9, e10, ⟨p1, p2, ⟨bst9, p3⟩, -, p6, p7⟩, a, -, -, bst, q1, q2, -⟩ := search_eq2 h hv
    have hc := gaP_le (needB M) (nT M)
    have h6 := nT6 h.1
    have eT : nT M1 = nT M := by unfold nT; rw [p7 1 (by omega) (by omega) (by omega) (by omega)]
    generalize (gaP (needB M) (nT M)).1 = c at *
    have h1 := tie_hid h (pF_h p6) (qF_e p7)
    by_cases hc0 : c = 0
    · refine Or.inr ⟨(3, S1), 0, pM M1 0 0 2, ?_, ?_, by simp, (show (2 : Int32) = kL [1, 3] 3 by decide), tie_ref h1 2⟩
      · unfold fX9_go
        rw [dV_in hv, cx_r, e9, cl_s, if_pos (by rw [p1, hc0]; exact nI_0)]
      · have l0 : M1 51 0 ≤ 0 := by rw [p2, hc0, nI_0]; exact Int32.le_refl _
        unfold fX10_go
        simp only [isVan_in hv, cl_q, st_q, i10, if_false, e10, l0, if_true, refused_n M1 i20, cl2_q]
    · have l0 : ¬ M1 51 0 ≤ 0 := by rw [p2]; exact nI_nle (by omega) (by omega)
      obtain ⟨S2, M2, y, g1, g2, g3, g4, -⟩ := go_lp (c := c) (bst := bst) hv (by omega) c 0 40000 40000 S1 (pM M1 0 0 0) 0 (tie_ref h1 0) (by omega) (by omega) (by omega) p1 p2 (fun k hk => ⟨by show bst k < nT M1; rw [eT]; exact (of_decide_eq_true (q1.2.1 k hk)).1, (p3 k hk).2.1.trans ((p3 k hk).2.2.symm.trans (q2 k hk)), q2 k hk⟩) rfl q1.1
      rw [nI_0] at g1 g2
      refine Or.inl ⟨(y, S2), y, M2, ?_, ?_, g4, rfl, g3⟩
      · unfold fX9_go
        rw [dV_in hv, cx_r, e9, cl_s, if_neg (by rw [p1]; exact nI_ne0 (by omega) (by omega)), st_s, st_s]
        exact g1
      · unfold fX10_go
        rw [isVan_in hv, cl_s, st_s, if_neg i10, e10, cl_s]
        show cl (fX10_isVan M1 (nI v)) _ = _
        rw [isVan_in hv, cl_s, st_s, if_neg i10, if_neg l0]
        show cl2 (fX10_refused M1 0) _ = _
        rw [refused_0, cl2_s, if_pos rfl, st_s, st_s]
        exact g2
  · refine thr h (n := 1) (w := 1) (b := 0) (by simp) (by decide) ?_ ?_
    · unfold fX9_go; rw [e1, cx_l]
    · unfold fX10_go
      simp only [e2, cl_q, st_q, if_true, refused_n M i10, cl2_q, i10, if_false]
end PGO
