/-! a bumper is hit, switches that stick are closed: the class's and the reference's -/
def bSt9 (a_1 : Nat) (a_2 : Nat) (i_3 : Int32) : (Int32 × zSt) → Option ((Int32 × zSt) ⊕ zSt) := fun (q2 : (Int32 × zSt)) =>
cl (fJ_size q2.2 (a_1 + 2)) fun r9 =>
if r9 ≤ q2.1 then
some (.inr (q2.2))
else
cl (fJ_get q2.2 (a_1 + 2) q2.1) fun r12 =>
st (zI q2.2 (2, a_1, r12) 6) fun x15 =>
st (fun (S16 : zSt) => (st (q2.1 + (1 : Int32)) fun x18 =>
some (.inl (x18, S16)) : Option ((Int32 × zSt) ⊕ zSt))) fun j17 =>
if x15 = (-1 : Int32) then
j17 q2.2
else
cl (fX2_closeSwitch q2.2 a_2 q2.1 i_3 x15) fun S21 =>
j17 S21
section PSK
variable {S S1 S2 Sb : zSt} {M M1 Mb : zMs} {t g n bi k s step : Nat} {ee : List Nat}
def SF (Sb S : zSt) (t g : Nat) : Prop := (∀ c : zId, c.1 ≠ 1 → ¬ (c.1 = 2 ∧ c.2.1 = t) → c ≠ (6, 0, g) → c ≠ (14, 0, g) → c ≠ (15, 0, g) → c ≠ (3, g, 0) → zI S c = zI Sb c) ∧ (∀ b k, k ≠ 5 → zI S (2, t, b) k = zI Sb (2, t, b) k) ∧ (∀ k, k ≠ 4 → zI S (3, g, 0) k = zI Sb (3, g, 0) k) ∧ (∀ c, c ≠ (16, g, 0) → zL S c = zL Sb c) ∧ (∀ c, zQ S c = zQ Sb c) ∧ (∀ c, zN S c = zN Sb c) ∧ (∀ c, zV S c = zV Sb c)
def MFr (Mb M : zMs) (t ball n : Nat) : Prop := (∀ k, k ≠ 15 → k ≠ 38 → k ≠ 41 → k ≠ 42 → k ≠ 43 → k ≠ 44 → M k = Mb k) ∧ (∀ i, (i < 8 * t ∨ 8 * t + n ≤ i) → M 15 i = Mb 15 i) ∧ (∀ i, (i < 300 * ball ∨ 300 * ball + 300 ≤ i) → M 38 i = Mb 38 i)
def LX (S : zSt) (g : Nat) (ee : List Nat) : Prop := zI S (3, g, 0) 4 = nI ee.length ∧ ∀ k e, ee[k]? = some e → zL S (16, g, 0) k = lN e
/-- the play behind what has been logged since Sb -/
def MPl (Sb : zSt) (Mb : zMs) (g : Nat) (M : zMs) (ee : List Nat) : Prop := (zI Sb (3, g, 0) 4).toNatClampNeg ≤ ee.length ∧ plM M = plS Mb g (ee.drop (zI Sb (3, g, 0) 4).toNatClampNeg) (plM Mb) ∧ ∃ n, n ≤ 14000 * ee.length ∧ M 41 0 = Mb 41 0 + nI n
theorem MPl_e {M2 : zMs} (h : MPl Sb Mb g M ee) (r : ∀ k, 41 ≤ k → k ≤ 44 → M2 k = M k) : MPl Sb Mb g M2 ee := by
  have : plM M2 = plM M := by unfold plM; rw [r 41 (by omega) (by omega), r 42 (by omega) (by omega), r 43 (by omega) (by omega), r 44 (by omega) (by omega)]
  unfold MPl
  rw [this, r 41 (by omega) (by omega)]
  exact h
theorem MPl_c (h : MPl Sb Mb g M ee) {e x : Nat} (hx : x ≤ 14000) (h41 : M1 41 0 = M 41 0 + nI x) (hc : plM M1 = cls Mb g (e % 16) (plM M)) : MPl Sb Mb g M1 (ee ++ [e]) := by
  obtain ⟨h1, h2, n, h3, h4⟩ := h
  refine ⟨by rw [List.length_append]; omega, ?_, n + x, ?_, ?_⟩
  · rw [List.drop_append_of_le_length h1, plS_a, ← h2]
    exact hc
  · rw [List.length_append]
    show n + x ≤ 14000 * (ee.length + 1)
    omega
  · rw [h41, h4, Int32.add_assoc, nI_add]
def MR (Sb : zSt) (Mb : zMs) (t g n bi : Nat) (S : zSt) (M : zMs) (ee : List Nat) : Prop := SF Sb S t g ∧ MFr Mb M t (3 * g + bi) n ∧ BU S M t n ∧ (∃ d, PT S 0 g M g d) ∧ RU S M g ∧ LX S g ee ∧ zI S (3, g, 0) 5 = nI bi ∧ MPl Sb Mb g M ee
theorem SF_b (h : SF Sb S t g) (hF : bF S S1) : SF Sb S1 t g := by
  obtain ⟨h1, h2, h3, h4, h5, h6, h7⟩ := h
  refine ⟨fun c a1 a2 a3 a4 a5 a6 => ?_, fun b k hk => ?_, fun k hk => ?_, fun c hc => (hF.2.1 c).trans (h4 c hc), fun c => (hF.2.2.1 c).trans (h5 c), fun c => (hF.2.2.2.1 c).trans (h6 c), fun c => (hF.2.2.2.2 c).trans (h7 c)⟩
  · rw [hF.1 c (fun e => a1 (by rw [e]))]; exact h1 c a1 a2 a3 a4 a5 a6
  · rw [hF.1 _ (kne (show (2 : Nat) ≠ 1 by decide))]; exact h2 b k hk
  · rw [hF.1 _ (kne (show (3 : Nat) ≠ 1 by decide))]; exact h3 k hk
theorem MR_b (h : MR Sb Mb t g n bi S M ee) (hF : bF S S1) : MR Sb Mb t g n bi S1 M ee := by
  obtain ⟨h1, h2, h3, ⟨d, h4⟩, h5, h6, h7, h8⟩ := h
  have z3 : zI S1 (3, g, 0) = zI S (3, g, 0) := hF.1 _ (kne (show (3 : Nat) ≠ 1 by decide))
  have z6 : zI S1 (6, 0, g) = zI S (6, 0, g) := hF.1 _ (kne (show (6 : Nat) ≠ 1 by decide))
  have z14 : zI S1 (14, 0, g) = zI S (14, 0, g) := hF.1 _ (kne (show (14 : Nat) ≠ 1 by decide))
  have z15 : zI S1 (15, 0, g) = zI S (15, 0, g) := hF.1 _ (kne (show (15 : Nat) ≠ 1 by decide))
  have z12 : zI S1 (12, 1, g) = zI S (12, 1, g) := hF.1 _ (kne (show (12 : Nat) ≠ 1 by decide))
  have z4 : ∀ n, zI S1 (4, n, 0) = zI S (4, n, 0) := fun n => hF.1 _ (kne (show (4 : Nat) ≠ 1 by decide))
  refine ⟨SF_b h1 hF, h2, BU_F h3 hF, ⟨d, ?_⟩, ?_, ?_, by rw [z3]; exact h7, h8⟩
  · unfold PT at h4 ⊢
    rw [z6, z14, z15]
    exact h4
  · unfold RU at h5 ⊢
    simp only [z12, z4, hF.2.2.1]
    exact h5
  · unfold LX at h6 ⊢
    rw [z3]
    simp only [hF.2.1]
    exact h6
theorem close1 (hg : g < 40) (h : MR Sb Mb t g n bi S M ee) (hk : k < 8) (hst : step < 4096) {i3 : Int32} (hs : i3 + 1 = nI s) (hs6 : s ≤ 60) (hbi : bi < 3) (hl : ee.length < 2520) :
    ∃ S1 M1, fX2_closeSwitch S g (nI k) (nI step) i3 = some S1 ∧ fX10_close M (nI k) = some M1 ∧ MR Sb Mb t g n bi S1 M1 (ee ++ [k + bi * 16 + step * 256 + s * 1048576]) ∧ zI S1 (1, 0, 0) = zI S (1, 0, 0) ∧ clF M M1 := by
  obtain ⟨h1, h2, h3, ⟨d, h4⟩, h5, ⟨l1, l2⟩, h7, h8⟩ := h
  -- the log, then the score
  have n3 : ∀ c : zId, c.1 ≠ 3 → zI (pI (pL S (16, g, 0) ee.length (lN (k + bi * 16 + step * 256 + s * 1048576))) (3, g, 0) 4 (nI (ee.length + 1))) c = zI S c := fun c hc => by rw [zI_pIn _ (kne hc), zI_pL]
  have P4 : PT (pI (pL S (16, g, 0) ee.length (lN (k + bi * 16 + step * 256 + s * 1048576))) (3, g, 0) 4 (nI (ee.length + 1))) 0 g M g d := by
    unfold PT at h4 ⊢
    rw [n3 _ (show (6 : Nat) ≠ 3 by decide), n3 _ (show (14 : Nat) ≠ 3 by decide), n3 _ (show (15 : Nat) ≠ 3 by decide)]
    exact h4
  have R4 : RU (pI (pL S (16, g, 0) ee.length (lN (k + bi * 16 + step * 256 + s * 1048576))) (3, g, 0) 4 (nI (ee.length + 1))) M g := by
    have z4 : ∀ n, zI (pI (pL S (16, g, 0) ee.length (lN (k + bi * 16 + step * 256 + s * 1048576))) (3, g, 0) 4 (nI (ee.length + 1))) (4, n, 0) = zI S (4, n, 0) := fun n => n3 _ (show (4 : Nat) ≠ 3 by decide)
    unfold RU at h5 ⊢
    simp only [n3 (12, 1, g) (show (12 : Nat) ≠ 3 by decide), z4, zQ_pI, zQ_pL]
    exact h5
  obtain ⟨S1, M1, d1, e1, e2, p1, F1, G1, x, hx, hx2, hx3⟩ := tc hg R4 P4 hk
  have eI : ∀ c : zId, c ≠ (6, 0, g) → c ≠ (14, 0, g) → c ≠ (15, 0, g) → c.1 ≠ 3 → zI S1 c = zI S c := fun c a1 a2 a3 a4 => (F1.1 c a1 a2 a3).trans (n3 c a4)
  have eI3 : ∀ q, zI S1 (3, g, 0) q = if q = 4 then nI (ee.length + 1) else zI S (3, g, 0) q := fun q => by
    rw [F1.1 _ (kne (show (3 : Nat) ≠ 6 by decide)) (kne (show (3 : Nat) ≠ 14 by decide)) (kne (show (3 : Nat) ≠ 15 by decide)), zI_at]
    by_cases e : q = 4
    · rw [if_pos ⟨rfl, e⟩, if_pos e]
    · rw [if_neg (fun q => e q.2), if_neg e]; rfl
  have eL : ∀ c, c ≠ (16, g, 0) → zL S1 c = zL S c := fun c hc => by rw [F1.2.1, zL_pI, zL_pLn _ hc]
  have gk : ∀ q, q < 40 → M1 q = M q := fun q hq => G1 q (by omega) (by omega) (by omega) (by omega)
  refine ⟨S1, M1, ?_, e2, ⟨?_, ?_, ?_, ⟨d1, p1⟩, RU_F R4 F1 G1, ⟨?_, fun q e hq => ?_⟩, ?_, ?_⟩, ?_, G1⟩
  · unfold fX2_closeSwitch
    rw [l1, if_neg (nI_pos (by omega)), if_pos (by rw [show (2520 : Int32) = nI 2520 from c2520I]; exact nI_lt hl (by omega)), gd_t (nI_in hl (by omega)), nI_clamp (by omega), hs, h7, en_mk (by omega) (by omega) hst (by omega), st_s, zI_pL, l1, nI_1, st_s, e1, cl_s]
  · obtain ⟨s1, s2, s3, s4, s5, s6, s7⟩ := h1
    refine ⟨fun c a1 a2 a3 a4 a5 a6 => ?_, fun b q hq => ?_, fun q hq => ?_, fun c hc => (eL c hc).trans (s4 c hc), fun c => ?_, fun c => ?_, fun c => ?_⟩
    · rw [F1.1 c a3 a4 a5, zI_pIn _ a6, zI_pL]; exact s1 c a1 a2 a3 a4 a5 a6
    · rw [eI _ (kne (show (2 : Nat) ≠ 6 by decide)) (kne (show (2 : Nat) ≠ 14 by decide)) (kne (show (2 : Nat) ≠ 15 by decide)) (show (2 : Nat) ≠ 3 by decide)]; exact s2 b q hq
    · rw [eI3, if_neg hq]; exact s3 q hq
    · rw [F1.2.2.1, zQ_pI, zQ_pL]; exact s5 c
    · rw [F1.2.2.2.1, zN_pI, zN_pL]; exact s6 c
    · rw [F1.2.2.2.2, zV_pI, zV_pL]; exact s7 c
  · obtain ⟨m1, m2, m3⟩ := h2
    exact ⟨fun q a1 a2 a3 a4 a5 a6 => (G1 q a3 a4 a5 a6).trans (m1 q a1 a2 a3 a4 a5 a6), fun i hi => by rw [gk 15 (by omega)]; exact m2 i hi, fun i hi => by rw [gk 38 (by omega)]; exact m3 i hi⟩
  · obtain ⟨b1, b2, b3, b4, b5⟩ := h3
    refine ⟨b1, b2, by rw [gk 8 (by omega)]; exact b3, ?_, fun b hb => ?_⟩
    · have c0 := eI (0, t + 2, 0) (kne (show (0 : Nat) ≠ 6 by decide)) (kne (show (0 : Nat) ≠ 14 by decide)) (kne (show (0 : Nat) ≠ 15 by decide)) (show (0 : Nat) ≠ 3 by decide)
      have cN : ∀ c, zN S1 c = zN S c := fun c => by rw [F1.2.2.2.1, zN_pI, zN_pL]
      have cV : ∀ c, zV S1 c = zV S c := fun c => by rw [F1.2.2.2.2, zV_pI, zV_pL]
      unfold zLs at b4 ⊢
      rw [c0, cN, cN]
      exact ⟨b4.1, fun g hg => by rw [cV]; exact b4.2.1 g hg, b4.2.2⟩
    · rw [eI _ (kne (show (2 : Nat) ≠ 6 by decide)) (kne (show (2 : Nat) ≠ 14 by decide)) (kne (show (2 : Nat) ≠ 15 by decide)) (show (2 : Nat) ≠ 3 by decide), gk 9 (by omega), gk 10 (by omega), gk 11 (by omega), gk 12 (by omega), gk 13 (by omega), gk 15 (by omega), gk 16 (by omega)]
      exact b5 b hb
  · rw [eI3, if_pos rfl, List.length_append]
    rfl
  · rw [F1.2.1, zL_pI, zL_pLs]
    unfold vp_updL
    by_cases e5 : q = ee.length
    · rw [if_pos e5]
      rw [e5, List.getElem?_append_right (Nat.le_refl _), Nat.sub_self] at hq
      cases hq
      rfl
    · rw [if_neg e5]
      have hlt : q < (ee ++ [k + bi * 16 + step * 256 + s * 1048576]).length := (List.getElem?_eq_some_iff.mp hq).1
      rw [List.length_append] at hlt
      have hlt : q < ee.length + 1 := hlt
      rw [List.getElem?_append_left (by omega)] at hq
      exact l2 q e hq
  · rw [eI3, if_neg (by decide)]; exact h7
  · refine MPl_c h8 hx hx2 ?_
    rw [hx3, show (k + bi * 16 + step * 256 + s * 1048576) % 16 = k by omega]
    exact cls_g (congrFun (h2.1 28 (by omega) (by omega) (by omega) (by omega) (by omega) (by omega)) _) (fun q q1 q2 j _ => congrFun (h2.1 q (by omega) (by omega) (by omega) (by omega) (by omega) (by omega)) _) _
  · exact eI _ (kne (show (1 : Nat) ≠ 6 by decide)) (kne (show (1 : Nat) ≠ 14 by decide)) (kne (show (1 : Nat) ≠ 15 by decide)) (show (1 : Nat) ≠ 3 by decide)
theorem MR_w (h : MR Sb Mb t g n bi S M ee) {b : Nat} (hb : b < n) (v : Int32) : MR Sb Mb t g n bi (pI S (2, t, b) 5 v) (pM M 15 (8 * t + b) v) ee := by
  obtain ⟨h1, h2, h3, ⟨d, h4⟩, h5, h6, h7, h8⟩ := h
  have n2 : ∀ c : zId, c.1 ≠ 2 → zI (pI S (2, t, b) 5 v) c = zI S c := fun c hc => zI_pIn _ (kne hc) _ _
  have hn8 := h3.1
  refine ⟨?_, ?_, ?_, ⟨d, ?_⟩, ?_, ?_, by rw [n2 _ (show (3 : Nat) ≠ 2 by decide)]; exact h7, MPl_e h8 (fun q q1 q2 => pMn (by omega) _ _)⟩
  · obtain ⟨s1, s2, s3, s4, s5, s6, s7⟩ := h1
    refine ⟨fun c a1 a2 a3 a4 a5 a6 => ?_, fun b1 q hq => ?_, fun q hq => ?_, s4, s5, s6, s7⟩
    · rw [zI_pIn _ (fun e => a2 (by rw [e]; exact ⟨rfl, rfl⟩))]; exact s1 c a1 a2 a3 a4 a5 a6
    · rw [zI_at, if_neg (fun e => hq e.2)]; exact s2 b1 q hq
    · rw [n2 _ (show (3 : Nat) ≠ 2 by decide)]; exact s3 q hq
  · obtain ⟨m1, m2, m3⟩ := h2
    exact ⟨fun q a1 a2 a3 a4 a5 a6 => by rw [pMn a1]; exact m1 q a1 a2 a3 a4 a5 a6, fun i hi => by rw [pM_at, if_neg (fun e => by have := e.2; omega)]; exact m2 i hi, fun i hi => by rw [pMn (by decide)]; exact m3 i hi⟩
  · obtain ⟨b1, b2, b3, b4, b5⟩ := h3
    refine ⟨b1, b2, b3, ?_, fun b0 hb0 => ?_⟩
    · unfold zLs at b4 ⊢
      rw [n2 _ (show (0 : Nat) ≠ 2 by decide)]
      exact b4
    · obtain ⟨c0, c1, c2, c3, c4, c5, c6, c7⟩ := b5 b0 hb0
      have z : ∀ q, q ≠ 5 → zI (pI S (2, t, b) 5 v) (2, t, b0) q = zI S (2, t, b0) q := fun q hq => by rw [zI_at, if_neg (fun e => hq e.2)]
      refine ⟨by rw [z 0 (by decide)]; exact c0, by rw [z 1 (by decide)]; exact c1, by rw [z 2 (by decide)]; exact c2, by rw [z 3 (by decide)]; exact c3, by rw [z 4 (by decide)]; exact c4, ?_, by rw [z 6 (by decide)]; exact c6, c7⟩
      rw [zI_at, pM_at]
      by_cases e : b0 = b
      · rw [if_pos ⟨by rw [e], rfl⟩, if_pos ⟨rfl, by rw [e]⟩]
      · rw [if_neg (fun q => e (congrArg (fun z : zId => z.2.2) q.1)), if_neg (fun q => e (by have := q.2; omega))]
        exact c5
  · unfold PT at h4 ⊢
    rw [n2 _ (show (6 : Nat) ≠ 2 by decide), n2 _ (show (14 : Nat) ≠ 2 by decide), n2 _ (show (15 : Nat) ≠ 2 by decide)]
    exact h4
  · have z4 : ∀ n, zI (pI S (2, t, b) 5 v) (4, n, 0) = zI S (4, n, 0) := fun n => n2 _ (show (4 : Nat) ≠ 2 by decide)
    unfold RU at h5 ⊢
    simp only [n2 (12, 1, g) (show (12 : Nat) ≠ 2 by decide), z4, zQ_pI]
    exact h5
  · unfold LX at h6 ⊢
    rw [n2 _ (show (3 : Nat) ≠ 2 by decide)]
    exact h6
/-- what a hit adds to the log -/
def hitL (bi step v : Nat) : List Nat := if v = 0 then [] else [ptE bi step v]
theorem hit1 (hg : g < 40) (h : MR Sb Mb t g n bi S M ee) {r : Int32} (hr : r = -1 ∨ ∃ b, b < n ∧ r = nI b) (hst : step < 4096) (hbi : bi < 3) (hl : ee.length < 2520) :
    ∃ S1 M1 v, fX9_hitBumper S t g r (nI step) = some S1 ∧ fX10_strike M (nI t) r = some (nI v, M1) ∧ v ≤ 8 ∧ MR Sb Mb t g n bi S1 M1 (ee ++ hitL bi step v) ∧ zI S1 (1, 0, 0) = zI S (1, 0, 0) ∧ M1 38 = M 38 := by
  have hU := h.2.2.1
  rcases hr with rfl | ⟨b, hb, rfl⟩
  · refine ⟨S, M, 0, ?_, ?_, by omega, ?_, rfl, rfl⟩
    · unfold fX9_hitBumper
      rw [if_pos (by decide)]
    · unfold fX10_strike
      rw [if_pos rfl, nI_0]
    · unfold hitL
      rw [if_pos rfl, List.append_nil]
      exact h
  · have hn8 := hU.1
    have ht6 := hU.2.1
    obtain ⟨c0, c1, c2, c3, c4, c5, c6, -⟩ := hU.2.2.2.2 b hb
    have c48 : (nI (8 * t + b)).toNatClampNeg = 8 * t + b := nI_clamp (by omega)
    have g48 : ¬ (nI (8 * t + b) < 0 ∨ 48 ≤ 8 * t + b) := fun q => q.elim (nI_pos (by omega)) (by omega)
    have hw := MR_w h hb (M 15 (8 * t + b) + 1)
    have z6 : zI (pI S (2, t, b) 5 (M 15 (8 * t + b) + 1)) (2, t, b) 6 = M 16 (8 * t + b) := by
      rw [zI_at, if_neg (fun q => absurd q.2 (by decide))]; exact c6
    by_cases hs : M 16 (8 * t + b) = -1
    · obtain ⟨S1, M1, e1, e2, m1, z1, G1⟩ := close1 (k := b) (step := step) (s := 0) (i3 := -1) hg hw (by omega) hst (by decide) (by omega) hbi hl
      refine ⟨S1, M1, b + 1, ?_, ?_, by omega, ?_, ?_, ?_⟩
      · unfold fX9_hitBumper
        rw [if_neg (nI_pos (by omega)), zLs_size hU.2.2.2.1, cl_s, if_pos (nI_lt hb (by omega)), zLs_get hU.2.2.2.1 (by omega) hb, cl_s, c5, st_s, z6, if_pos hs, e1, cl_s]
      · unfold fX10_strike
        rw [if_neg (of_eq_false (nI_m (by omega))), ix8, c48, gd_t g48, gd_t g48, st_s, gd_t g48, pMn (by decide), if_pos hs, e2, cl_s, nI_1]
      · unfold hitL
        rw [if_neg (Nat.succ_ne_zero b), show ptE bi step (b + 1) = b + bi * 16 + step * 256 + 0 * 1048576 by unfold ptE; omega]
        exact m1
      · rw [z1, zI_pIn _ (kne (show (1 : Nat) ≠ 2 by decide))]
      · rw [G1 38 (by omega) (by omega) (by omega) (by omega), pMn (by decide)]
    · refine ⟨pI S (2, t, b) 5 (M 15 (8 * t + b) + 1), pM M 15 (8 * t + b) (M 15 (8 * t + b) + 1), 0, ?_, ?_, by omega, ?_, ?_, ?_⟩
      · unfold fX9_hitBumper
        rw [if_neg (nI_pos (by omega)), zLs_size hU.2.2.2.1, cl_s, if_pos (nI_lt hb (by omega)), zLs_get hU.2.2.2.1 (by omega) hb, cl_s, c5, st_s, z6, if_neg hs]
      · unfold fX10_strike
        rw [if_neg (of_eq_false (nI_m (by omega))), ix8, c48, gd_t g48, gd_t g48, st_s, gd_t g48, pMn (by decide), if_neg hs, nI_0]
      · unfold hitL
        rw [if_pos rfl, List.append_nil]
        exact hw
      · rw [zI_pIn _ (kne (show (1 : Nat) ≠ 2 by decide))]
      · rw [pMn (by decide)]
/-- the reference's loop over switches that stick, whatever comes behind it -/
def bRs {β : Type} (i_2 x15 : Int32) (fV : zMs → β) : Int32 × zMs → Option ((Int32 × zMs) ⊕ β) := fun q50 => st (fun (u_ : Unit) => (some (.inr (fV q50.2)) : Option ((Int32 × zMs) ⊕ β))) fun j56 =>
if (8 : Int32) ≤ q50.1 then
j56 ()
else
if (x15 - x15 / (10 : Int32) * (10 : Int32)) = 0 then
gd (¬ ((((8 : Int32) * i_2) + q50.1) < 0 ∨ 960 ≤ (((8 : Int32) * i_2) + q50.1).toNatClampNeg)) (
st (fun (S57 : zMs) => (st (q50.1 + (1 : Int32)) fun x59 =>
some (.inl (x59, S57)) : Option ((Int32 × zMs) ⊕ β))) fun j58 =>
if (q50.2 39 (((8 : Int32) * i_2) + q50.1).toNatClampNeg) ≤ 0 then
j58 q50.2
else
cl (fX10_close q50.2 q50.1) fun M62 =>
j58 M62)
else
j56 ()
theorem stk_r {β : Type} (fV : zMs → β) {ball : Nat} (hball : ball < 120) (h10 : step % 10 = 0) (hst : step ≤ 300) (hz : ∀ k, n ≤ k → k < 8 → M 39 (8 * ball + k) = 0) : ∀ (dd k fuel : Nat), n ≤ k → k + dd = 8 → dd < fuel → lp (bRs (nI ball) (nI step) fV) fuel (nI k, M) = some (fV M) := by
  intro dd
  induction dd with
  | zero =>
    intro k fuel hk hd hf
    obtain ⟨f, rfl⟩ : ∃ f, fuel = f + 1 := ⟨fuel - 1, by omega⟩
    refine lp_e _ f ?_
    unfold bRs
    dsimp only
    rw [st_s, if_pos (by rw [c8I]; exact nI_le (by omega) (by omega))]
  | succ dd ih =>
    intro k fuel hk hd hf
    obtain ⟨f, rfl⟩ : ∃ f, fuel = f + 1 := ⟨fuel - 1, by omega⟩
    have e39 := hz k hk (by omega)
    have em : nI step - nI step / (10 : Int32) * (10 : Int32) = nI (step % 10) := pk_rem (d := 10) (by omega) (by omega) (by omega)
    have c : (nI (8 * ball + k)).toNatClampNeg = 8 * ball + k := nI_clamp (by omega)
    have gg : ¬ (nI (8 * ball + k) < 0 ∨ 960 ≤ 8 * ball + k) := fun q => q.elim (nI_pos (by omega)) (by omega)
    have eb : bRs (nI ball) (nI step) fV (nI k, M) = some (.inl (nI (k + 1), M)) := by
      unfold bRs
      dsimp only
      rw [st_s, if_neg (by rw [c8I]; exact nI_ge (by omega) (by omega)), em, h10, if_pos nI_0, ix8, c, gd_t gg, st_s, if_pos (by rw [e39]; exact Int32.le_refl _)]
      show st (nI k + 1) _ = _
      rw [st_s, nI_1]
    rw [lp_s _ f eb]
    exact ih (k + 1) f (by omega) (by omega) (by omega)
theorem stk_n {β : Type} (fV : zMs → β) (ball : Nat) (h10 : ¬ step % 10 = 0) (hst : step ≤ 300) : lp (bRs (nI ball) (nI step) fV) 40000 (0, M) = some (fV M) := by
  refine lp_e _ 39999 ?_
  have em : nI step - nI step / (10 : Int32) * (10 : Int32) = nI (step % 10) := pk_rem (d := 10) (by omega) (by omega) (by omega)
  unfold bRs
  dsimp only
  rw [st_s, if_neg (by decide), em, if_neg (nI_ne0 (by omega) (by omega))]
theorem stk1 {β : Type} (fV : zMs → β) {M0 : zMs} (hg : g < 40) (hbi : bi < 3) (h10 : step % 10 = 0) (hst : step ≤ 300) (h39 : ∀ k, k < 8 → M0 39 (8 * (3 * g + bi) + k) = M0 16 (8 * t + k) + 1) (h16 : ∀ k, n ≤ k → k < 8 → M0 16 (8 * t + k) = -1) : ∀ (dd k fs fm : Nat) (S : zSt) (M : zMs) (ee : List Nat), k + dd = n → dd < fs → dd + 8 < fm → MR Sb Mb t g n bi S M ee → M 39 = M0 39 → M 16 = M0 16 → ee.length + dd ≤ 2520 →
    ∃ S1 M1, lp (bSt9 t g (nI step)) fs (nI k, S) = some S1 ∧ lp (bRs (nI (3 * g + bi)) (nI step) fV) fm (nI k, M) = some (fV M1) ∧ MR Sb Mb t g n bi S1 M1 (ee ++ qW M0 (3 * g + bi) bi step (2 + k)) ∧ zI S1 (1, 0, 0) = zI S (1, 0, 0) ∧ M1 38 = M 38 := by
  intro dd
  induction dd with
  | zero =>
    intro k fs fm S M ee hk hfs hfm h q39 q16 hl
    have hU := h.2.2.1
    have hn8 := hU.1
    obtain ⟨fs, rfl⟩ : ∃ f, fs = f + 1 := ⟨fs - 1, by omega⟩
    have e0 : qW M0 (3 * g + bi) bi step (2 + k) = [] := by
      have : ∀ d w, 2 + k ≤ w → w + d = 10 → (List.filterMap (fun w => if pt M0 (3 * g + bi) step w = 0 then none else some (ptE bi step (pt M0 (3 * g + bi) step w))) (List.range' w d)) = [] := by
        intro d
        induction d with
        | zero => intro w _ _; rfl
        | succ d ih =>
          intro w hw hd
          have e : pt M0 (3 * g + bi) step w = 0 := by
            unfold pt
            have := h39 (w - 2) (by omega)
            rw [if_neg (by omega), if_neg (by omega), show 8 * (3 * g + bi) + w - 2 = 8 * (3 * g + bi) + (w - 2) by omega, this, h16 (w - 2) (by omega) (by omega), if_neg]
            rintro ⟨-, q⟩
            exact q (by decide)
          rw [List.range'_succ, List.filterMap_cons, if_pos e]
          exact ih (w + 1) (by omega) (by omega)
      exact this (10 - (2 + k)) (2 + k) (Nat.le_refl _) (by omega)
    refine ⟨S, M, lp_e _ fs ?_, ?_, ?_, rfl, rfl⟩
    · unfold bSt9
      rw [zLs_size hU.2.2.2.1, cl_s, if_pos (nI_le (by omega) (by omega))]
    · refine stk_r fV (n := n) (by omega) h10 hst (fun q a1 a2 => ?_) (8 - k) k fm (by omega) (by omega) (by omega)
      rw [q39, h39 q a2, h16 q a1 a2]
      decide
    · rw [e0, List.append_nil]; exact h
  | succ dd ih =>
    intro k fs fm S M ee hk hfs hfm h q39 q16 hl
    have hU := h.2.2.1
    have hn8 := hU.1
    obtain ⟨fs, rfl⟩ : ∃ f, fs = f + 1 := ⟨fs - 1, by omega⟩
    obtain ⟨fm, rfl⟩ : ∃ f, fm = f + 1 := ⟨fm - 1, by omega⟩
    have hk1 : k < n := by omega
    obtain ⟨c0, c1, c2, c3, c4, c5, c6, -, -, -, -, -, r16⟩ := hU.2.2.2.2 k hk1
    have ge : ¬ nI n ≤ nI k := nI_ge hk1 (by omega)
    have em : nI step - nI step / (10 : Int32) * (10 : Int32) = nI (step % 10) := pk_rem (d := 10) (by omega) (by omega) (by omega)
    have c : (nI (8 * (3 * g + bi) + k)).toNatClampNeg = 8 * (3 * g + bi) + k := nI_clamp (by omega)
    have gg : ¬ (nI (8 * (3 * g + bi) + k) < 0 ∨ 960 ≤ 8 * (3 * g + bi) + k) := fun q => q.elim (nI_pos (by omega)) (by omega)
    have e39 : M 39 (8 * (3 * g + bi) + k) = M 16 (8 * t + k) + 1 := by rw [q39, h39 k (by omega), q16]
    have ept : pt M0 (3 * g + bi) step (2 + k) = if step % 10 = 0 ∧ (M 39 (8 * (3 * g + bi) + k)).toNatClampNeg ≠ 0 then 2 + k - 1 + 16 * (M 39 (8 * (3 * g + bi) + k)).toNatClampNeg else 0 := by
      unfold pt
      rw [if_neg (by omega), if_neg (by omega), show 8 * (3 * g + bi) + (2 + k) - 2 = 8 * (3 * g + bi) + k by omega, q39]
    have eq := qW_c (M := M0) (ball := 3 * g + bi) (bi := bi) (n := step) (w := 2 + k) (by omega)
    rcases r16 with r16 | ⟨sk, hsk, r16⟩
    · -- it does not stick
      have e0 : M 39 (8 * (3 * g + bi) + k) = 0 := by rw [e39, r16]; decide
      rw [e0] at ept
      rw [if_neg (fun q => q.2 (by decide))] at ept
      rw [ept, if_pos rfl, List.nil_append] at eq
      have b1 : bSt9 t g (nI step) (nI k, S) = some (.inl (nI (k + 1), S)) := by
        unfold bSt9
        simp only [zLs_size hU.2.2.2.1, cl_q, ge, if_false, zLs_get hU.2.2.2.1 (show n ≤ 64 by omega) hk1, st_q, c6, r16, if_true, nI_1]
      have b2 : bRs (nI (3 * g + bi)) (nI step) fV (nI k, M) = some (.inl (nI (k + 1), M)) := by
        unfold bRs
        dsimp only
        rw [st_s, if_neg (by rw [c8I]; exact nI_ge (by omega) (by omega)), em, h10, if_pos nI_0, ix8, c, gd_t gg, st_s, if_pos (by rw [e0]; exact Int32.le_refl _)]
        show st (nI k + 1) _ = _
        rw [st_s, nI_1]
      rw [lp_s _ fs b1, lp_s _ fm b2, eq]
      obtain ⟨S1, M1, d1, d2, d3, d4, d5⟩ := ih (k + 1) fs fm S M ee (by omega) (by omega) (by omega) h q39 q16 (by omega)
      exact ⟨S1, M1, d1, d2, d3, d4, d5⟩
    · have e1 : M 39 (8 * (3 * g + bi) + k) = nI (sk + 1) := by rw [e39, r16, nI_1]
      rw [e1, nI_clamp (by omega), if_pos ⟨h10, Nat.succ_ne_zero _⟩] at ept
      rw [ept, if_neg (by omega), show ptE bi step (2 + k - 1 + 16 * (sk + 1)) = k + bi * 16 + step * 256 + (sk + 1) * 1048576 by unfold ptE; omega] at eq
      obtain ⟨S1, M1, f1, f2, m1, z1, G1⟩ := close1 (k := k) (step := step) (s := sk + 1) (i3 := nI sk) hg h (by omega) (by omega) (nI_1 sk) (by omega) hbi (by omega)
      have hne : ¬ nI sk = -1 := of_eq_false (nI_m (by omega))
      have b1 : bSt9 t g (nI step) (nI k, S) = some (.inl (nI (k + 1), S1)) := by
        unfold bSt9
        simp only [zLs_size hU.2.2.2.1, cl_q, ge, if_false, zLs_get hU.2.2.2.1 (show n ≤ 64 by omega) hk1, st_q, c6, r16, hne, f1, nI_1]
      have b2 : bRs (nI (3 * g + bi)) (nI step) fV (nI k, M) = some (.inl (nI (k + 1), M1)) := by
        unfold bRs
        dsimp only
        rw [st_s, if_neg (by rw [c8I]; exact nI_ge (by omega) (by omega)), em, h10, if_pos nI_0, ix8, c, gd_t gg, st_s, if_neg (by rw [e1]; exact nI_nle (by omega) (by omega)), f2, cl_s]
        show st (nI k + 1) _ = _
        rw [st_s, nI_1]
      rw [lp_s _ fs b1, lp_s _ fm b2, eq, ← List.append_assoc]
      obtain ⟨S2, M2, d1, d2, d3, d4, d5⟩ := ih (k + 1) fs fm S1 M1 _ (by omega) (by omega) (by omega) m1 (by rw [G1 39 (by omega) (by omega) (by omega) (by omega)]; exact q39) (by rw [G1 16 (by omega) (by omega) (by omega) (by omega)]; exact q16) (by rw [List.length_append]; show ee.length + 1 + dd ≤ 2520; omega)
      exact ⟨S2, M2, d1, d2, d3, d4.trans z1, d5.trans (G1 38 (by omega) (by omega) (by omega) (by omega))⟩
end PSK
