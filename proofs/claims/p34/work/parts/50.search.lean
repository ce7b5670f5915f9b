/-! the search for the shortest way; way, planned -/
section PS
variable {S S1 S0 : zSt} {M M1 M0 : zMs} {c n a : Nat} {ord : Nat → Nat} {site : Nat → Nat}
/-- the plan, alike -/
def PB (S0 S : zSt) (M0 M : zMs) (c n : Nat) : Prop := zI S (5, 0, 0) 3 = nI c ∧ M 51 0 = nI c ∧ (∃ bst : Nat → Nat, ∀ k, k < c → bst k < n ∧ zI S (19, 0, 0) k = nI (bst k) ∧ M 53 k = nI (bst k)) ∧ (∃ len, len < 2 ^ 31 ∧ zI S (5, 0, 0) 4 = nI len ∧ M 54 0 = nI len) ∧ pF S0 S ∧ qF M0 M
theorem keepB {len : Nat} (hl : len < 2 ^ 31) (h6 : c ≤ 6) (hO : OS S c ord) (hM : OM M c ord) (hb : ∀ k, k < c → ord k < n) (hS : pF S0 S) (hQ : qF M0 M) : PB S0 (kpS (pI S (5, 0, 0) 4 (nI len)) c) M0 (kpM (pM M 54 0 (nI len)) c) c n ∧ OS (kpS (pI S (5, 0, 0) 4 (nI len)) c) c ord ∧ OM (kpM (pM M 54 0 (nI len)) c) c ord := by
  have o1 : OS (kpS (pI S (5, 0, 0) 4 (nI len)) c) c ord := by
    refine ⟨?_, fun k hk => ?_⟩
    · rw [kpS_o _ (show (5 : Nat) ≠ 19 by decide), zI_at, if_neg (fun q => absurd q.2 (by decide))]; exact hO.1
    · rw [kpS_o _ (show (18 : Nat) ≠ 19 by decide), zI_pIn _ (kne (show (18 : Nat) ≠ 5 by decide))]; exact hO.2 k hk
  have o2 : OM (kpM (pM M 54 0 (nI len)) c) c ord := by
    refine ⟨?_, fun k hk => ?_⟩
    · rw [kpM_o _ (by decide), pMn (by decide)]; exact hM.1
    · rw [kpM_o _ (by decide), pMn (by decide)]; exact hM.2 k hk
  refine ⟨⟨o1.1, o2.1, ⟨ord, fun k hk => ⟨hb k hk, ?_, ?_⟩⟩, ⟨len, hl, ?_, ?_⟩, pF_t hS (pF_t (pF_p (by omega) _ _) (kpS_F _ c)), ?_⟩, o1, o2⟩
  · rw [kpS_a _ c k hk, zI_pIn _ (kne (show (18 : Nat) ≠ 5 by decide))]; exact hO.2 k hk
  · rw [kpM_a _ c k hk, pMn (by decide)]; exact hM.2 k hk
  · rw [kpS_o _ (show (5 : Nat) ≠ 19 by decide), zI_at, if_pos ⟨rfl, rfl⟩]
  · rw [kpM_o _ (by decide), pM_s]
  · refine qF_t hQ (qF_t (qF_p (k := 54) (by omega) 0 (nI len)) ?_)
    intro k x y z w
    rw [kpM_o _ z]
def jX : zMs → Option ((Int32 × zMs) ⊕ ((Int32 × zMs) ⊕ zMs)) := fun (S20 : zMs) => (cl2 (fX10_reorder S20) fun r22 M24 => st r22 fun x26 => some (.inl (x26, M24)) : Option ((Int32 × zMs) ⊕ ((Int32 × zMs) ⊕ zMs)))
theorem reo {r : Int32} {M24 : zMs} (hr : fX10_reorder M = some (r, M24)) : jX M = some (.inl (r, M24)) := by
  unfold jX
  rw [hr, cl2_s, st_s]
theorem plan_keep {v : Int32} {len L : Nat} {q : Int32} (hq : q ≠ 0) (h6 : c ≤ 6) (h51 : M 51 0 = nI c) (hlen : fX10_lengthOf M v = some (nI len)) (hc : M 54 0 = -1 ∨ ∃ L, M 54 0 = nI L ∧ L < 2 ^ 31 ∧ len < L) (hl : len < 2 ^ 31) {r : Int32} {M24 : zMs} (hr : fX10_reorder (kpM (pM M 54 0 (nI len)) c) = some (r, M24)) : bX10_plan v (q, M) = some (.inl (r, M24)) := by
  unfold bX10_plan
  dsimp only
  rw [if_neg hq]
  refine cl_of hlen ?_
  rw [st_s, st_s, st_s]
  have hk : ∀ J : zMs → Option ((Int32 × zMs) ⊕ ((Int32 × zMs) ⊕ zMs)), J (kpM (pM M 54 0 (nI len)) c) = some (.inl (r, M24)) → lp (bK10 J) 40000 (0, pM M 54 0 (nI len)) = some (.inl (r, M24)) := fun J hJ => keep10 J h6 (by rw [pMn (by decide)]; exact h51) hJ
  by_cases h1 : M 54 0 = -1
  · refine (if_pos h1).trans ?_
    show st (pM M 54 0 (nI len)) _ = _
    rw [st_s, st_s]
    exact hk jX (reo hr)
  · obtain ⟨L, e, e2, e3⟩ := hc.resolve_left h1
    refine (if_neg h1).trans ?_
    refine (if_neg (by rw [e]; exact nI_ge e3 e2)).trans ?_
    show st (pM M 54 0 (nI len)) _ = _
    rw [st_s, st_s]
    exact hk jX (reo hr)
theorem plan_go {v : Int32} {len L : Nat} {q : Int32} (hq : q ≠ 0) (hlen : fX10_lengthOf M v = some (nI len)) (hL : M 54 0 = nI L) (hLl : L ≤ len) (hl : len < 2 ^ 31) {r : Int32} {M24 : zMs} (hr : fX10_reorder M = some (r, M24)) : bX10_plan v (q, M) = some (.inl (r, M24)) := by
  unfold bX10_plan
  dsimp only
  rw [if_neg hq]
  refine cl_of hlen ?_
  rw [st_s, st_s, st_s]
  refine (if_neg (by rw [hL]; exact of_eq_false (nI_m (by omega)))).trans ?_
  refine (if_pos (by rw [hL]; exact nI_le hLl hl)).trans ?_
  exact reo hr
def PQ (site : Nat → Nat) (a c : Nat) (Q : Nat → Prop) (M : zMs) : Prop := ∃ bst : Nat → Nat, Pm c Q bst ∧ (∀ k, k < c → M 53 k = nI (bst k)) ∧ M 54 0 = nI (msP site bst a c).1
theorem PQ_r {Q : Nat → Prop} (h : PQ site a c Q M) (e53 : M1 53 = M 53) (e54 : M1 54 = M 54) : PQ site a c Q M1 := by
  unfold PQ
  rw [e53, e54]
  exact h
theorem keepQ {len : Nat} {Q : Nat → Prop} (hM : OM M c ord) (hm : Pm c Q ord) (hl : (msP site ord a c).1 = len) : PQ site a c Q (kpM (pM M 54 0 (nI len)) c) :=
  ⟨ord, hm, fun k hk => by rw [kpM_a _ c k hk, pMn (by decide)]; exact hM.2 k hk, by rw [kpM_o _ (by decide), pM_s, hl]⟩
theorem sch_lp {Q : Nat → Prop} (hn : n ≤ 6) (h6 : c ≤ 6) {v : Nat} (hv : v < 2) (ha : a ≤ 100) (h49 : M0 49 v = nI a) (hsM : ∀ t, t < n → M0 2 t = nI (site t) ∧ site t ≤ 100) : ∀ (m fs fm code : Nat) (S : zSt) (M : zMs), itN m c code = true → m ≤ 719 → m < fs → m + 1 < fm → PB S0 S M0 M c n → OS S c (dec8 code) → OM M c (dec8 code) → (∀ k, k < c → dec8 code k < n) → (∀ t, t < n → zI S (17, 0, 0) t = nI (site t)) → Pm c Q (dec8 code) → PQ site a c Q M →
    ∃ S1 M1 r M24, lp (bS9 (nI a)) fs (nI (720 - m), S) = some S1 ∧ fX10_reorder M = some (r, M24) ∧ lp (bX10_plan (nI v)) fm (r, M24) = some (.inr M1) ∧ PB S0 S1 M0 M1 c n ∧ PQ site a c Q M1 := by
  intro m
  induction m with
  | zero =>
    intro fs fm code S M hit hm hfs hfm hP hO hM hb hs hPm hPQ
    obtain ⟨fs, rfl⟩ : ∃ f, fs = f + 1 := ⟨fs - 1, by omega⟩
    obtain ⟨fm, rfl⟩ : ∃ f, fm = f + 1 := ⟨fm - 1, by omega⟩
    have hnx : nxP c (dec8 code) = none := Option.isNone_iff_eq_none.mp hit
    rcases next10 h6 hM (fun k hk => by have := hb k hk; omega) with ⟨-, e2⟩ | ⟨o1, s1, e1, -⟩
    · refine ⟨S, M, 0, M, lp_e _ fs ?_, e2, lp_e _ fm ?_, hP, hPQ⟩
      · unfold bS9
        dsimp only
        rw [if_pos (by rw [c720I]; exact Int32.le_refl _)]
      · unfold bX10_plan
        dsimp only
        rw [if_pos rfl]
    · rw [hnx] at e1; cases e1
  | succ m ih =>
    intro fs fm code S M hit hm hfs hfm hP hO hM hb hs hPm hPQ
    obtain ⟨fs, rfl⟩ : ∃ f, fs = f + 1 := ⟨fs - 1, by omega⟩
    obtain ⟨fm, rfl⟩ : ∃ f, fm = f + 1 := ⟨fm - 1, by omega⟩
    have hb6 : ∀ k, k < c → dec8 code k < 6 := fun k hk => by have := hb k hk; omega
    have l720 : ¬ (720 : Int32) ≤ nI (720 - (m + 1)) := by rw [c720I]; exact nI_ge (by omega) (by omega)
    rcases next9 h6 hO hb6 with ⟨n1, e9⟩ | ⟨o1, S1, n1, e9, O1, F1⟩
    · rcases next10 h6 hM hb6 with ⟨-, e2⟩ | ⟨o2, s2, n2, -⟩
      · refine ⟨S, M, 0, M, lp_e _ fs ?_, e2, lp_e _ fm ?_, hP, hPQ⟩
        · unfold bS9
          dsimp only
          rw [if_neg l720, e9, cl2_s, if_pos rfl]
        · unfold bX10_plan
          dsimp only
          rw [if_pos rfl]
      · rw [n1] at n2; cases n2
    · rcases next10 h6 hM hb6 with ⟨n2, -⟩ | ⟨o2, M1, n2, e10, O2, F2⟩
      · rw [n1] at n2; cases n2
      · rw [n1] at n2
        cases n2
        have hit2 : itN m c (enc8 c o1) = true := by
          have : itN (m + 1) c code = (match nxP c (dec8 code) with | none => true | some o1 => itN m c (enc8 c o1)) := rfl
          rw [this, n1] at hit
          exact hit
        have hb1 := nxP_b hb n1
        have hde : ∀ k, k < c → dec8 (enc8 c o1) k = o1 k := fun k hk => dec_enc c o1 k (fun k hk => by have := hb1 k hk; omega) hk
        have O1 : OS S1 c (dec8 (enc8 c o1)) := ⟨O1.1, fun k hk => by rw [hde k hk]; exact O1.2 k hk⟩
        have O2 : OM M1 c (dec8 (enc8 c o1)) := ⟨O2.1, fun k hk => by rw [hde k hk]; exact O2.2 k hk⟩
        have hb2 : ∀ k, k < c → dec8 (enc8 c o1) k < n := fun k hk => by rw [hde k hk]; exact hb1 k hk
        have hm2 : Pm c Q (dec8 (enc8 c o1)) := Pm_c (nxP_m hPm n1) hde
        obtain ⟨p1, p2, ⟨bst, p3⟩, ⟨L, hL, p4, p5⟩, p6, p7⟩ := hP
        have s17 : ∀ t, t < n → zI S1 (17, 0, 0) t = nI (site t) ∧ site t ≤ 100 := fun t ht => ⟨by rw [F1.1 _ (kne (show (17 : Nat) ≠ 18 by decide))]; exact hs t ht, (hsM t ht).2⟩
        have q7 : qF M0 M1 := qF_t p7 (qF_m F2)
        have m9 := meas9 h6 O1 hn hb2 s17 ha
        have m10 := meas10 h6 O2 hn hb2 (fun t ht => ⟨by rw [q7 2 (by omega) (by omega) (by omega) (by omega)]; exact (hsM t ht).1, (hsM t ht).2⟩) ha hv (by rw [q7 49 (by omega) (by omega) (by omega) (by omega)]; exact h49)
        have hmb := (msP_b (site := site) (ord := dec8 (enc8 c o1)) (c := c) ha (fun k hk => (hsM _ (hb2 k hk)).2) c (Nat.le_refl _)).1
        generalize hms : (msP site (dec8 (enc8 c o1)) a c).1 = len at *
        have f3 : zI S1 (5, 0, 0) 3 = nI c := O1.1
        have f4 : zI S1 (5, 0, 0) 4 = nI L := by rw [F1.1 _ (kne (show (5 : Nat) ≠ 18 by decide))]; exact p4
        have g4 : M1 54 0 = nI L := by rw [F2 54 (by decide)]; exact p5
        have i1 : nI (720 - (m + 1)) + 1 = nI (720 - m) := by rw [nI_1]; congr 1; omega
        have one : (1 : Int32) ≠ 0 := i10
        by_cases hlt : L ≤ len
        · obtain ⟨S2, M2, r, M24, b1, b2, b3, b4⟩ := ih fs fm (enc8 c o1) S1 M1 hit2 (by omega) (by omega) (by omega) ⟨f3, O2.1, ⟨bst, fun k hk => ⟨(p3 k hk).1, by rw [F1.1 _ (kne (show (19 : Nat) ≠ 18 by decide))]; exact (p3 k hk).2.1, by rw [F2 53 (by decide)]; exact (p3 k hk).2.2⟩⟩, ⟨L, hL, f4, g4⟩, pF_t p6 (pF_o F1), q7⟩ O1 O2 hb2 (fun t ht => (s17 t ht).1) hm2 (PQ_r hPQ (F2 53 (by decide)) (F2 54 (by decide)))
          refine ⟨S2, M2, 1, M1, ?_, e10, ?_, b4⟩
          · have eb : bS9 (nI a) (nI (720 - (m + 1)), S) = some (.inl (nI (720 - m), S1)) := by
              unfold bS9
              dsimp only
              rw [if_neg l720, e9, cl2_s, if_neg i10, m9, cl_s, st_s, st_s, if_pos (by rw [f4]; exact nI_le hlt (by omega))]
              show st _ _ = _
              rw [st_s, i1]
            rw [lp_s _ fs eb]
            exact b1
          · rw [lp_s _ fm (plan_go one m10 g4 hlt (by omega) b2)]
            exact b3
        · obtain ⟨kB, kO, kM⟩ := keepB (S0 := S0) (M0 := M0) (len := len) (by omega) h6 O1 O2 hb2 (pF_t p6 (pF_o F1)) q7
          obtain ⟨S2, M2, r, M24, b1, b2, b3, b4⟩ := ih fs fm (enc8 c o1) _ _ hit2 (by omega) (by omega) (by omega) kB kO kM hb2 (fun t ht => by
            rw [kpS_o _ (show (17 : Nat) ≠ 19 by decide), zI_pIn _ (kne (show (17 : Nat) ≠ 5 by decide))]
            exact (s17 t ht).1) hm2 (keepQ O2 hm2 hms)
          refine ⟨S2, M2, 1, M1, ?_, e10, ?_, b4⟩
          · have eb : bS9 (nI a) (nI (720 - (m + 1)), S) = some (.inl (nI (720 - m), kpS (pI S1 (5, 0, 0) 4 (nI len)) c)) := by
              unfold bS9
              dsimp only
              rw [if_neg l720, e9, cl2_s, if_neg i10, m9, cl_s, st_s, st_s, if_neg (by rw [f4]; exact nI_ge (by omega) hL), st_s, keep9 h6 (by rw [zI_at, if_neg (fun q => absurd q.2 (by decide))]; exact f3), cl_s]
              show st _ _ = _
              rw [st_s, i1]
            rw [lp_s _ fs eb]
            exact b1
          · rw [lp_s _ fm (plan_keep (L := 0) one h6 O2.1 m10 (Or.inr ⟨L, g4, hL, by omega⟩) (by omega) b2)]
            exact b3
theorem search_eq2 (h : Tie S M) {v : Nat} (hv : v < 2) : ∃ S1 M1, fX4_search S (zI S (9, v, 0) 1) = some S1 ∧ fX10_makePlan M (nI v) = some M1 ∧ PB S S1 M M1 (gaP (needB M) (nT M)).1 (nT M) ∧ ∃ a, a ≤ 100 ∧ M 49 v = nI a ∧ PQ (fun t => (M 2 t).toNatClampNeg) a (gaP (needB M) (nT M)).1 (fun t => needB M t = true) M1 := by
  have h6 := nT6 h.1
  have hc := gaP_le (needB M) (nT M)
  have hlt := gaP_lt (needB M) (nT M)
  obtain ⟨w1, w2, w3, w4, w5, w6, w7, w8, w9, w10, w11, w12⟩ := h.1
  obtain ⟨a, -, ha, e49⟩ := w10 v hv
  have e91 : zI S (9, v, 0) 1 = nI a := (ag h 49 v hv).trans e49
  rw [e91]
  have hsM : ∀ t, t < nT M → M 2 t = nI ((M 2 t).toNatClampNeg) ∧ (M 2 t).toNatClampNeg ≤ 100 := fun t ht => by
    obtain ⟨e, -, h2⟩ := rng_n (w5 t ht).1 (by omega)
    exact ⟨e, h2⟩
  -- gather
  have F0 : pF S (pI S (5, 0, 0) 3 0) := pF_p (by omega) _ _
  obtain ⟨Sg, g1, gF, gO, gs⟩ := gather9 h (nT M) 0 40000 (pI S (5, 0, 0) 3 0) (by omega) (by omega) F0 ⟨by rw [zI_at, if_pos ⟨rfl, rfl⟩]; exact nI_0.symm, fun k hk => absurd hk (Nat.not_lt_zero _)⟩ (fun t ht => absurd ht (Nat.not_lt_zero _))
  rw [nI_0] at g1
  obtain ⟨Mg, r1, rF, rO⟩ := gather10 h.1 (nI v) (nT M) 0 40000 (pM M 51 0 0) (by omega) (by omega) (qF_p (by omega) _ _) ⟨by rw [pM_s]; exact nI_0.symm, fun k hk => absurd hk (Nat.not_lt_zero _)⟩
  rw [nI_0] at r1
  have hpm : Pm (gaP (needB M) (nT M)).1 (fun t => needB M t = true) (gaP (needB M) (nT M)).2 := Pm_q (gaP_m (needB M) (nT M)) (fun t => ⟨fun q => q.2, fun q => ⟨(of_decide_eq_true q).1, q⟩⟩)
  generalize hgo : (gaP (needB M) (nT M)).2 = ord at *
  generalize hgc : (gaP (needB M) (nT M)).1 = c at *
  have hde : ∀ k, k < c → dec8 (enc8 c ord) k = ord k := fun k hk => dec_enc c ord k (fun k hk => by have := hlt k hk; omega) hk
  have hit : itN 719 c (enc8 c ord) = true := by
    have e : gaP (needB M) 6 = gaP (needB M) (nT M) := by
      have := gaP_6 (need := needB M) (n := nT M) (fun k hk => decide_eq_false (fun q => by have := q.1; omega)) (6 - nT M)
      rw [show nT M + (6 - nT M) = 6 by omega] at this
      exact this
    have := it_6 (needB M)
    rw [e, hgc, hgo] at this
    exact this
  have O1 : OS Sg c (dec8 (enc8 c ord)) := ⟨gO.1, fun k hk => by rw [hde k hk]; exact gO.2 k hk⟩
  have rO54 : OM (pM Mg 54 0 (-1)) c (dec8 (enc8 c ord)) := ⟨by rw [pMn (by decide)]; exact rO.1, fun k hk => by rw [pMn (by decide), hde k hk]; exact rO.2 k hk⟩
  have hb2 : ∀ k, k < c → dec8 (enc8 c ord) k < nT M := fun k hk => by rw [hde k hk]; exact hlt k hk
  have hm2 : Pm c (fun t => needB M t = true) (dec8 (enc8 c ord)) := Pm_c hpm hde
  have s17 : ∀ t, t < nT M → zI Sg (17, 0, 0) t = nI ((M 2 t).toNatClampNeg) ∧ (M 2 t).toNatClampNeg ≤ 100 := fun t ht => ⟨by rw [gs t ht]; exact (hsM t ht).1, (hsM t ht).2⟩
  have q7 : qF M (pM Mg 54 0 (-1)) := qF_t rF (qF_p (by omega) _ _)
  have m9 := meas9 (site := fun t => (M 2 t).toNatClampNeg) (by omega) O1 h6 hb2 s17 ha
  have m10 := meas10 (site := fun t => (M 2 t).toNatClampNeg) (by omega) rO54 h6 hb2 (fun t ht => ⟨by rw [q7 2 (by omega) (by omega) (by omega) (by omega)]; exact (hsM t ht).1, (hsM t ht).2⟩) ha hv (by rw [q7 49 (by omega) (by omega) (by omega) (by omega)]; exact e49)
  have hmb := (msP_b (site := fun t => (M 2 t).toNatClampNeg) (ord := dec8 (enc8 c ord)) (c := c) ha (fun k hk => (hsM _ (hb2 k hk)).2) c (Nat.le_refl _)).1
  generalize hms : (msP (fun t => (M 2 t).toNatClampNeg) (dec8 (enc8 c ord)) a c).1 = len at *
  obtain ⟨kB, kO, kM⟩ := keepB (S0 := S) (M0 := M) (len := len) (by omega) (by omega) O1 rO54 hb2 gF q7
  obtain ⟨S1, M1, r, M24, b1, b2, b3, b4⟩ := sch_lp (site := fun t => (M 2 t).toNatClampNeg) h6 (show c ≤ 6 by omega) hv ha e49 hsM 719 40000 39999 (enc8 c ord) _ _ hit (by omega) (by omega) (by omega) kB kO kM hb2 (fun t ht => by
    rw [kpS_o _ (show (17 : Nat) ≠ 19 by decide), zI_pIn _ (kne (show (17 : Nat) ≠ 5 by decide))]
    exact (s17 t ht).1) hm2 (keepQ rO54 hm2 hms)
  obtain ⟨b4, b5⟩ := b4
  refine ⟨S1, M1, ?_, ?_, b4, a, ha, e49, b5⟩
  · have eg : fX4_gather S = some Sg := by
      unfold fX4_gather
      rw [st_s, st_s]
      exact g1
    unfold fX4_search
    rw [eg, cl_s, m9, cl_s, st_s, keep9 (c := c) (by omega) (by rw [zI_at, if_neg (fun q => absurd q.2 (by decide))]; exact gO.1), cl_s, st_s]
    exact b1
  · have ep : planR (nI v) Mg = some (.inr M1) := by
      unfold planR
      rw [st_s, st_s]
      refine (lp_s (bX10_plan (nI v)) 39999 (plan_keep (L := 0) i10 (show c ≤ 6 by omega) rO54.1 m10 (Or.inl (by rw [pM_s])) (by omega) b2)).trans ?_
      exact b3
    unfold fX10_makePlan
    rw [st_s, st_s]
    exact r1 M1 ep
theorem search_eq (h : Tie S M) {v : Nat} (hv : v < 2) : ∃ S1 M1, fX4_search S (zI S (9, v, 0) 1) = some S1 ∧ fX10_makePlan M (nI v) = some M1 ∧ PB S S1 M M1 (gaP (needB M) (nT M)).1 (nT M) := by
  obtain ⟨S1, M1, e1, e2, e3, -⟩ := search_eq2 h hv
  exact ⟨S1, M1, e1, e2, e3⟩
theorem ok_way (S : zSt) (M : zMs) (i : Int32) (h : Tie S M) : zOk Tie [1] (fun y : (Int32 × zSt) => (y.1).toInt64) (fun y : (Int32 × zSt) => y.2) (fX9_way S i) (fun b : Int32 => b.toInt64) (fX10_way M i) := by
  rcases van_d (S := S) (M := M) i with ⟨v, hv, rfl⟩ | ⟨e1, e2⟩
  · obtain ⟨S1, M1, e9, e10, -, -, -, ⟨len, hl, p4, p5⟩, p6, p7⟩ := search_eq (tie_ref h 0) hv
    refine Or.inl ⟨(nI len, S1), nI len, M1, ?_, ?_, ?_, rfl, tie_hid (tie_ref h 0) (pF_h p6) (qF_e p7)⟩
    · unfold fX9_way
      rw [dV_in hv, cx_r, e9, cl_s, p4]
    · unfold fX10_way
      simp only [isVan_in hv, cl_q, st_q, i10, if_false, refused_0, cl2_q, if_true, e10, p5]
    · rw [p7 0 (by omega) (by omega) (by omega) (by omega)]; rfl
  · refine thr h (n := 1) (w := 1) (b := 0) (by simp) (by decide) ?_ ?_
    · unfold fX9_way; rw [e1, cx_l]
    · unfold fX10_way
      simp only [e2, cl_q, st_q, if_true, refused_n M i10, cl2_q, i10, if_false]
end PS
