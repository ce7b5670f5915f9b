/-! twin -/
def bX2_alike (S : zSt) (a_z : Nat) (a_1 : Nat) : (Int32) → Option ((Int32) ⊕ Int32) := fun (q2 : (Int32)) =>
if (zI S (3, a_z, 0) 4) ≤ q2 then
some (.inr ((1 : Int32)))
else
cl (fX2_entryOf S a_z q2) fun r8 =>
cl (fX2_entryOf S a_1 q2) fun r10 =>
if (lg_cmp r8 r10) = 0 then
st (q2 + (1 : Int32)) fun x12 =>
some (.inl (x12))
else
some (.inr ((0 : Int32)))
def bX10_alike (i_1 : Int32) (i_2 : Int32) : (Int32 × Int32 × zMs) → Option ((Int32 × Int32 × zMs) ⊕ (Int32 × zMs)) := fun (q15 : (Int32 × Int32 × zMs)) =>
st (fun (u_ : Unit) => (if q15.1 = q15.2.1 then
some (.inr (((1 : Int32), q15.2.2)))
else
some (.inr (((0 : Int32), q15.2.2))) : Option ((Int32 × Int32 × zMs) ⊕ (Int32 × zMs)))) fun j21 =>
if q15.1 = q15.2.1 then
if q15.1 = (-1 : Int32) then
j21 ()
else
cl2 (fX10_next q15.2.2 (0 : Int32) i_1) fun r22 M24 =>
st r22 fun x25 =>
cl2 (fX10_next M24 (1 : Int32) i_2) fun r26 M28 =>
st r26 fun x29 =>
some (.inl (x25, x29, M28))
else
j21 ()
def bX9_twin (S : zSt) (i_1 : Int32) (r1 : Nat) : (Int32) → Option ((Int32) ⊕ ((Nat × zSt) ⊕ Int32)) := fun (q10 : (Int32)) =>
cl (fJ_size S 1) fun r17 =>
if r17 ≤ q10 then
some (.inr (.inr (-1 : Int32)))
else
cl (fJ_get S 1 q10) fun r20 =>
st (fun (u_ : Unit) => (st (q10 + (1 : Int32)) fun x24 =>
some (.inl (x24)) : Option ((Int32) ⊕ ((Nat × zSt) ⊕ Int32)))) fun j23 =>
if q10 = i_1 then
j23 ()
else
cl (fX2_isOver S r20) fun r25 =>
if r25 = 0 then
j23 ()
else
cl (fX2_hasLogOf S r1 r20) fun r28 =>
if r28 = 0 then
j23 ()
else
some (.inr (.inr q10))
def bX10_twin (i_1 : Int32) : (Int32 × Int32 × zMs) → Option ((Int32 × Int32 × zMs) ⊕ (Int32 × zMs)) := fun (q7 : (Int32 × Int32 × zMs)) =>
if q7.2.1 < 0 then
some (.inr ((q7.1, q7.2.2)))
else
gd (¬ (i_1 < 0 ∨ 40 ≤ i_1.toNatClampNeg)) (
if (q7.2.2 26 i_1.toNatClampNeg) = 0 then
cl2 (fX10_entries q7.2.2 i_1) fun r13 M15 =>
if r13 ≤ 0 then
some (.inr ((q7.1, M15)))
else
st (fun (y16 : Int32) (S17 : zMs) => (st y16 fun x19 =>
st (q7.2.1 + (-1 : Int32)) fun x20 =>
some (.inl (x19, x20, S17)) : Option ((Int32 × Int32 × zMs) ⊕ (Int32 × zMs)))) fun j18 =>
st (fun (S21 : zMs) => (j18 q7.1 S21 : Option ((Int32 × Int32 × zMs) ⊕ (Int32 × zMs)))) fun j22 =>
if q7.2.1 = i_1 then
j22 M15
else
gd (¬ (q7.2.1 < 0 ∨ 40 ≤ q7.2.1.toNatClampNeg)) (
if (M15 26 q7.2.1.toNatClampNeg) = 0 then
cl2 (fX10_areAlike M15 i_1 q7.2.1) fun r23 M25 =>
if r23 = 0 then
j22 M25
else
j18 q7.2.1 M25
else
j22 M15)
else
some (.inr ((q7.1, q7.2.2))))
section PTW
variable {S S1 S0 : zSt} {M M1 M0 : zMs} {a b g d k : Nat}
theorem lN_inj {a b : Nat} (ha : a < 2 ^ 26) (hb : b < 2 ^ 26) : lN a = lN b ↔ a = b := pk_lEQ (by omega) (by omega)
theorem lc_eq {x y : Int64} : lg_cmp x y = 0 ↔ x = y := lg_cmp_eq x y
/-- the class: two logs with the same entries -/
theorem hasLog_eq (h : Tie S M) {g o : Nat} (hg : g < nG M) (ho : o < nG M) : fX2_hasLogOf S g o = some (if ents M g = ents M o then 1 else 0) := by
  have l1 := ents_2520 h.1 hg
  have l2 := ents_2520 h.1 ho
  unfold fX2_hasLogOf
  by_cases hl : (ents M g).length = (ents M o).length
  · rw [if_pos (c := zI S (3, g, 0) 4 = zI S (3, o, 0) 4) (by rw [log_len h hg, log_len h ho, hl]), st_s]
    have main : ∀ dd k fuel, k + dd = (ents M o).length → dd < fuel → (∀ i, i < k → (ents M g)[i]? = (ents M o)[i]?) → lp (bX2_alike S g o) fuel (nI k) = some (if ents M g = ents M o then 1 else 0) := by
      intro dd
      induction dd with
      | zero =>
        intro k fuel hk hf hs
        obtain ⟨f, rfl⟩ : ∃ f, fuel = f + 1 := ⟨fuel - 1, by omega⟩
        have e : ents M g = ents M o := by
          apply List.ext_getElem?
          intro i
          by_cases hi : i < k
          · exact hs i hi
          · rw [List.getElem?_eq_none (by omega), List.getElem?_eq_none (by omega)]
        rw [if_pos e]
        refine lp_e _ f ?_
        unfold bX2_alike
        rw [log_len h hg, hl, show k = (ents M o).length by omega, if_pos (Int32.le_refl _)]
      | succ dd ih =>
        intro k fuel hk hf hs
        obtain ⟨f, rfl⟩ : ∃ f, fuel = f + 1 := ⟨fuel - 1, by omega⟩
        obtain ⟨x, hx⟩ : ∃ x, (ents M g)[k]? = some x := ⟨_, List.getElem?_eq_getElem (by omega)⟩
        obtain ⟨y, hy⟩ : ∃ y, (ents M o)[k]? = some y := ⟨_, List.getElem?_eq_getElem (by omega)⟩
        have ox := ents_mem h.1 hg (List.mem_of_getElem? hx)
        have oy := ents_mem h.1 ho (List.mem_of_getElem? hy)
        by_cases hxy : x = y
        · have eb : bX2_alike S g o (nI k) = some (.inl (nI (k + 1))) := by
            unfold bX2_alike
            simp only [log_len h hg, nI_ge (show k < (ents M g).length by omega) (by omega), if_false, entryOf_eq h hg hx, entryOf_eq h ho hy, cl_q, lc_eq, hxy, if_true, st_q, nI_1]
          rw [lp_s _ f eb]
          refine ih (k + 1) f (by omega) (by omega) (fun i hi => ?_)
          by_cases e : i = k
          · rw [e, hx, hy, hxy]
          · exact hs i (by omega)
        · have e : ¬ ents M g = ents M o := fun e => by rw [e, hy] at hx; exact hxy (Option.some.inj hx).symm
          rw [if_neg e]
          refine lp_e _ f ?_
          unfold bX2_alike
          simp only [log_len h hg, nI_ge (show k < (ents M g).length by omega) (by omega), if_false, entryOf_eq h hg hx, entryOf_eq h ho hy, cl_q, lc_eq, lN_inj ox.1 oy.1, hxy]
    have := main (ents M o).length 0 40000 (by omega) (by omega) (fun i hi => by omega)
    rw [nI_0] at this
    exact this
  · rw [if_neg (c := zI S (3, g, 0) 4 = zI S (3, o, 0) 4) (fun q => by rw [log_len h hg, log_len h ho] at q; exact hl ((nI_eq (by omega) (by omega)).mp q)), if_neg (fun e => hl (by rw [e]))]
theorem alike_lp (h : WM M0) {g o : Nat} (hg : g < nG M0) (ho : o < nG M0) : ∀ (r t : List Nat) (fuel : Nat) (M : zMs), eqM M0 M → At M0 M g 0 r.tail → At M0 M o 1 t.tail → (∀ e, e ∈ r → enOk e) → (∀ e, e ∈ t → enOk e) → r.length < fuel → ∃ M1, lp (bX10_alike (nI g) (nI o)) fuel (hdE r, hdE t, M) = some ((if r = t then 1 else 0), M1) ∧ eqM M0 M1 ∧ M1 0 0 = M 0 0 := by
  intro r
  induction r with
  | nil =>
    intro t fuel M he ha ha1 hr ht hf
    obtain ⟨f, rfl⟩ : ∃ f, fuel = f + 1 := ⟨fuel - 1, by omega⟩
    cases t with
    | nil => exact ⟨M, lp_e _ f rfl, he, rfl⟩
    | cons y t =>
      refine ⟨M, lp_e _ f ?_, he, rfl⟩
      have hy := hdE_cons (r := t) (ht y (List.mem_cons_self ..))
      unfold bX10_alike
      simp only [st_q, show hdE ([] : List Nat) = -1 from rfl, show ¬ (-1 : Int32) = hdE (y :: t) from fun q => hy q.symm, if_false, show ¬ ([] : List Nat) = y :: t from fun q => by cases q]
  | cons x r ih =>
    intro t fuel M he ha ha1 hr ht hf
    obtain ⟨f, rfl⟩ : ∃ f, fuel = f + 1 := ⟨fuel - 1, by omega⟩
    have hx0 := hr x (List.mem_cons_self ..)
    have hx := hdE_cons (r := r) hx0
    cases t with
    | nil =>
      refine ⟨M, lp_e _ f ?_, he, rfl⟩
      unfold bX10_alike
      simp only [st_q, show hdE ([] : List Nat) = -1 from rfl, hx, if_false, show ¬ x :: r = ([] : List Nat) from fun q => by cases q]
    | cons y t =>
      have hy0 := ht y (List.mem_cons_self ..)
      by_cases hxy : x = y
      · subst hxy
        obtain ⟨M1, e1, a1, F1⟩ := next_eq h hg (by omega) he ha
        obtain ⟨M2, e2, a2, F2⟩ := next_eq h ho (show 1 < 2 by omega) (eqM_t he (wkF_eqM F1)) (At_wk ha1 F1 (by omega))
        rw [nI_0] at e1
        have e1 : fX10_next M 0 (nI g) = some (hdE r, M1) := e1
        have e2 : fX10_next M1 1 (nI o) = some (hdE t, M2) := e2
        have eb : bX10_alike (nI g) (nI o) (hdE (x :: r), hdE (x :: t), M) = some (.inl (hdE r, hdE t, M2)) := by
          unfold bX10_alike
          have ee : hdE (x :: r) = hdE (x :: t) := rfl
          simp only [st_q, ← ee, hx, if_false, if_true, e1, e2, cl2_q]
        rw [lp_s _ f eb]
        obtain ⟨M3, e3, h3, q3⟩ := ih t f M2 (eqM_t (eqM_t he (wkF_eqM F1)) (wkF_eqM F2)) (At_wk a1 F2 (by omega)) a2 (fun e he1 => hr e (List.mem_cons_of_mem _ he1)) (fun e he1 => ht e (List.mem_cons_of_mem _ he1)) (by simp only [List.length_cons] at hf; omega)
        refine ⟨M3, ?_, h3, by rw [q3, M00_wk F2, M00_wk F1]⟩
        rw [e3]
        by_cases e : r = t
        · rw [if_pos e, if_pos (by rw [e])]
        · rw [if_neg e, if_neg (fun q => e (List.cons.inj q).2)]
      · refine ⟨M, lp_e _ f ?_, he, rfl⟩
        have hn : ¬ hdE (x :: r) = hdE (y :: t) := fun q => hxy ((nI_eq (by have := hx0.1; omega) (by have := hy0.1; omega)).mp q)
        unfold bX10_alike
        simp only [st_q, hn, if_false, show ¬ x :: r = y :: t from fun q => hxy (List.cons.inj q).1]
theorem alike_eq (h : WM M0) {g o : Nat} (hg : g < nG M0) (ho : o < nG M0) (he : eqM M0 M) : ∃ M1, fX10_areAlike M (nI g) (nI o) = some ((if ents M0 g = ents M0 o then 1 else 0), M1) ∧ eqM M0 M1 ∧ M1 0 0 = M 0 0 := by
  have hl := ents_2520 h hg
  obtain ⟨A, a1, a2, aF⟩ := rewind_eq h hg (show 0 < 2 by omega) M
  obtain ⟨B, b1, b2, bF⟩ := rewind_eq h ho (show 1 < 2 by omega) A
  have hB : eqM M0 B := eqM_t (eqM_t he (wkF_eqM aF)) (wkF_eqM bF)
  obtain ⟨C, c1, c2, cF⟩ := next_eq h hg (show 0 < 2 by omega) hB (At_wk a2 bF (by omega))
  have hC := eqM_t hB (wkF_eqM cF)
  obtain ⟨D, d1, d2, dF⟩ := next_eq h ho (show 1 < 2 by omega) hC (At_wk b2 cF (by omega))
  obtain ⟨E, e1, e2, e3⟩ := alike_lp h hg ho (ents M0 g) (ents M0 o) 40000 D (eqM_t hC (wkF_eqM dF)) (At_wk c2 dF (by omega)) d2 (fun e hm => ents_mem h hg hm) (fun e hm => ents_mem h ho hm) (by omega)
  rw [nI_0] at a1 c1
  have b1 : fX10_rewind A 1 = some B := b1
  have d1 : fX10_next C 1 (nI o) = some (hdE (ents M0 o), D) := d1
  refine ⟨E, ?_, e2, by rw [e3, M00_wk dF, M00_wk cF, M00_wk bF, M00_wk aF]⟩
  unfold fX10_areAlike
  simp only [a1, cl_q, b1, c1, cl2_q, st_q, d1]
  exact e1
/-- a twin of g -/
def twB (M : zMs) (g k : Nat) : Bool := decide (k ≠ g ∧ M 26 k = 0 ∧ ents M g = ents M k)
/-- the first from k on, of n -/
def fst (f : Nat → Bool) (k : Nat) : Nat → Int32
  | 0 => -1
  | n + 1 => if f k = true then nI k else fst f (k + 1) n
theorem isOver_eq (h : Tie S M) {g : Nat} (hg : g < nG M) : fX2_isOver S g = some (if M 26 g = 0 then 1 else 0) := by
  have hL := nL3 h.1 hg
  have e : 3 - zI S (3, g, 0) 5 = nI (nL M g) := (ag h 26 g hg).trans (nL_e h.1 hg)
  have e5 : zI S (3, g, 0) 5 = nI (3 - nL M g) := by
    have : zI S (3, g, 0) 5 = 3 - (3 - zI S (3, g, 0) 5) := by
      rw [Int32.sub_eq_add_neg, Int32.neg_sub, Int32.add_comm, Int32.sub_add_cancel]
    rw [this, e, c3I, pk_sub (by omega)]
  unfold fX2_isOver
  rw [e5, nL_e h.1 hg]
  by_cases h0 : nL M g = 0
  · simp (disch := omega) only [Nat.add_sub_cancel, nI_0, c2I, c3I, c4I, c6I, c8I, c9I, c10I, c15I, c16I, c20I, c30I, c40I, c48I, c60I, c100I, c120I, c159I, c160I, c239I, c240I, c256I, c300I, c318I, c320I, c720I, c840I, c960I, c2520I, c36000I, c1048576I, nI_1, nI_add, pk_mul, nI_pred1, nI_pm1, pk_sub, pk_div, nI_clamp, nI_lz, nI_leI, nI_ltI, nI_eq, nI_z, nI_lez, nI_gez, nI_gtz, nI_m, nI_m2, nI_lem, nI_ltm, nleF, leT, ltT, ltF, eqT, eqF, false_or, or_false, not_false_eq_true, not_true_eq_false, gd_T, st_q, cl_q, cl2_q, cxr_q, cxl_q, i10, if_true, if_false, Bool.false_eq_true]
  · simp (disch := omega) only [Nat.add_sub_cancel, nI_0, c2I, c3I, c4I, c6I, c8I, c9I, c10I, c15I, c16I, c20I, c30I, c40I, c48I, c60I, c100I, c120I, c159I, c160I, c239I, c240I, c256I, c300I, c318I, c320I, c720I, c840I, c960I, c2520I, c36000I, c1048576I, nI_1, nI_add, pk_mul, nI_pred1, nI_pm1, pk_sub, pk_div, nI_clamp, nI_lz, nI_leI, nI_ltI, nI_eq, nI_z, nI_lez, nI_gez, nI_gtz, nI_m, nI_m2, nI_lem, nI_ltm, nleF, leT, ltT, ltF, eqT, eqF, false_or, or_false, not_false_eq_true, not_true_eq_false, gd_T, st_q, cl_q, cl2_q, cxr_q, cxl_q, i10, if_true, if_false, Bool.false_eq_true]
theorem twin9 (h : Tie S M) {g : Nat} (hg : g < nG M) : fX9_twin S (nI g) = some (.inr (if M 26 g = 0 ∧ ents M g ≠ [] then fst (twB M g) 0 (nG M) else -1)) := by
  have hg4 := nG40 h.1
  have hl := ents_2520 h.1 hg
  unfold fX9_twin
  rw [dG_in h hg, cx_r, isOver_eq h hg, cl_s, st_s]
  by_cases h0 : M 26 g = 0
  · by_cases hn : ents M g = []
    · rw [if_pos h0, if_neg i10, log_len h hg, hn]
      show (if (nI 0) = 0 then _ else _) = _
      rw [if_pos nI_0, if_neg (fun q => q.2 rfl)]
    · have hn0 : 0 < (ents M g).length := List.length_pos_iff.mpr hn
      rw [if_pos h0, if_neg i10, log_len h hg, if_neg (nI_ne0 hn0 (by omega)), if_pos ⟨h0, hn⟩, st_s]
      have main : ∀ dd k fuel, k + dd = nG M → dd < fuel → lp (bX9_twin S (nI g) g) fuel (nI k) = some (.inr (fst (twB M g) k dd)) := by
        intro dd
        induction dd with
        | zero =>
          intro k fuel hk hf
          obtain ⟨f, rfl⟩ : ∃ f, fuel = f + 1 := ⟨fuel - 1, by omega⟩
          refine lp_e _ f ?_
          unfold bX9_twin
          rw [zLs_size (ls1 h), cl_s, show k = nG M by omega, if_pos (Int32.le_refl _)]
          rfl
        | succ dd ih =>
          intro k fuel hk hf
          obtain ⟨f, rfl⟩ : ∃ f, fuel = f + 1 := ⟨fuel - 1, by omega⟩
          have hk1 : k < nG M := by omega
          have ge : ¬ nI (nG M) ≤ nI k := nI_ge hk1 (by omega)
          have next : twB M g k = false → bX9_twin S (nI g) g (nI k) = some (.inl (nI (k + 1))) → lp (bX9_twin S (nI g) g) (f + 1) (nI k) = some (.inr (fst (twB M g) k (dd + 1))) := by
            intro hb e
            rw [lp_s _ f e, ih (k + 1) f (by omega) (by omega)]
            show _ = some (Sum.inr (if twB M g k = true then nI k else fst (twB M g) (k + 1) dd))
            rw [hb, if_neg (by decide)]
          by_cases hkg : k = g
          · refine next (decide_eq_false (fun q => q.1 hkg)) ?_
            subst hkg
            unfold bX9_twin
            simp only [zLs_size (ls1 h), cl_q, ge, if_false, zLs_get (ls1 h) (show nG M ≤ 64 by omega) hk1, st_q, if_true, nI_1]
          · have hne : ¬ nI k = nI g := fun q => hkg ((nI_eq (by omega) (by omega)).mp q)
            by_cases hL : M 26 k = 0
            · by_cases hE : ents M g = ents M k
              · have hb : twB M g k = true := decide_eq_true ⟨hkg, hL, hE⟩
                have e : bX9_twin S (nI g) g (nI k) = some (.inr (.inr (nI k))) := by
                  unfold bX9_twin
                  simp only [zLs_size (ls1 h), cl_q, ge, if_false, zLs_get (ls1 h) (show nG M ≤ 64 by omega) hk1, st_q, hne, isOver_eq h hk1, hL, if_true, i10, hasLog_eq h hg hk1, hE]
                rw [lp_e _ f e]
                show _ = some (Sum.inr (if twB M g k = true then nI k else fst (twB M g) (k + 1) dd))
                rw [if_pos hb]
              · refine next (decide_eq_false (fun q => hE q.2.2)) ?_
                unfold bX9_twin
                simp only [zLs_size (ls1 h), cl_q, ge, if_false, zLs_get (ls1 h) (show nG M ≤ 64 by omega) hk1, st_q, hne, isOver_eq h hk1, hL, if_true, i10, hasLog_eq h hg hk1, hE, nI_1]
            · refine next (decide_eq_false (fun q => hL q.2.1)) ?_
              unfold bX9_twin
              simp only [zLs_size (ls1 h), cl_q, ge, if_false, zLs_get (ls1 h) (show nG M ≤ 64 by omega) hk1, st_q, hne, isOver_eq h hk1, hL, if_true, nI_1]
      have := main (nG M) 0 40000 (by omega) (by omega)
      rw [nI_0] at this
      exact this
  · rw [if_neg h0, if_pos rfl, if_neg (fun q => h0 q.1)]
theorem twin10 (h : WM M0) (he : eqM M0 M) {g : Nat} (hg : g < nG M0) (h00 : M 0 0 = 0) (h0 : M0 26 g = 0) (hn : ents M0 g ≠ []) : ∀ (dd fuel : Nat) (M : zMs) (k : Nat), eqM M0 M → M 0 0 = 0 → dd ≤ nG M0 → dd < fuel → k = dd → ∃ M1, lp (bX10_twin (nI g)) fuel (fst (twB M0 g) dd (nG M0 - dd), nI k - 1, M) = some (fst (twB M0 g) 0 (nG M0), M1) ∧ eqM M0 M1 ∧ M1 0 0 = 0 := by
  have hg4 := nG40 h
  have hl := ents_2520 h hg
  have hn0 : 0 < (ents M0 g).length := List.length_pos_iff.mpr hn
  intro dd
  induction dd with
  | zero =>
    intro fuel M k he hm0 hd hf hk
    obtain ⟨f, rfl⟩ : ∃ f, fuel = f + 1 := ⟨fuel - 1, by omega⟩
    refine ⟨M, lp_e _ f ?_, he, hm0⟩
    unfold bX10_twin
    rw [hk, nI_0]
    simp only [z01, if_true, Nat.sub_zero]
  | succ dd ih =>
    intro fuel M k he hm0 hd hf hk
    obtain ⟨f, rfl⟩ : ∃ f, fuel = f + 1 := ⟨fuel - 1, by omega⟩
    have hkk : nI k - 1 = nI dd := by rw [hk, nI_pred]
    have hd1 : nI dd + (-1) = nI dd - 1 := (Int32.sub_eq_add_neg _ _).symm
    have q26 (k : Nat) : ∀ {M : zMs}, eqM M0 M → M 26 k = M0 26 k := fun he => congrFun (he 26 (by unfold visR; omega)) k
    obtain ⟨M1, e1, h1, F1⟩ := entries_eq h hg he
    have hm1 : M1 0 0 = 0 := by rw [M00_wk F1]; exact hm0
    have hs : fst (twB M0 g) dd (nG M0 - dd) = if twB M0 g dd = true then nI dd else fst (twB M0 g) (dd + 1) (nG M0 - (dd + 1)) := by
      rw [show nG M0 - dd = (nG M0 - (dd + 1)) + 1 by omega]
      rfl
    have hg40 : ¬ 40 ≤ g := by omega
    have hd40 : ¬ 40 ≤ dd := by omega
    have cg : (nI g).toNatClampNeg = g := nI_clamp (by omega)
    have cd : (nI dd).toNatClampNeg = dd := nI_clamp (by omega)
    have lz : ¬ nI (ents M0 g).length ≤ 0 := nI_nle hn0 (by omega)
    have fin : ∀ (M2 : zMs) (v : Int32), eqM M0 M2 → M2 0 0 = 0 → v = fst (twB M0 g) dd (nG M0 - dd) → bX10_twin (nI g) (fst (twB M0 g) (dd + 1) (nG M0 - (dd + 1)), nI k - 1, M) = some (.inl (v, nI dd - 1, M2)) → ∃ M1, lp (bX10_twin (nI g)) (f + 1) (fst (twB M0 g) (dd + 1) (nG M0 - (dd + 1)), nI k - 1, M) = some (fst (twB M0 g) 0 (nG M0), M1) ∧ eqM M0 M1 ∧ M1 0 0 = 0 := by
      intro M2 v h2 h20 hv e
      rw [lp_s _ f e, hv]
      exact ih f M2 dd h2 h20 (by omega) (by omega) rfl
    by_cases hkg : dd = g
    · refine fin M1 (fst (twB M0 g) (dd + 1) (nG M0 - (dd + 1))) h1 hm1 ?_ ?_
      · rw [hs, show twB M0 g dd = false from decide_eq_false (fun q => q.1 hkg), if_neg (by decide)]
      · subst hkg
        unfold bX10_twin
        simp only [hkk, nI_pos (show dd < 2 ^ 31 by omega), if_false, cg, hg40, hd40, false_or, not_false_eq_true, gd_T, q26 dd he, h0, if_true, e1, cl2_q, lz, st_q, hd1]
    · have hne : ¬ nI dd = nI g := fun q => hkg ((nI_eq (by omega) (by omega)).mp q)
      by_cases hL : M0 26 dd = 0
      · obtain ⟨M2, e2, h2, F2⟩ := alike_eq h hg (show dd < nG M0 by omega) h1
        by_cases hE : ents M0 g = ents M0 dd
        · refine fin M2 (nI dd) h2 (by rw [F2]; exact hm1) ?_ ?_
          · rw [hs, show twB M0 g dd = true from decide_eq_true ⟨hkg, hL, hE⟩, if_pos rfl]
          · rw [if_pos hE] at e2
            unfold bX10_twin
            simp only [hkk, nI_pos (show dd < 2 ^ 31 by omega), if_false, cg, cd, nI_pos (show g < 2 ^ 31 by omega), hg40, hd40, false_or, not_false_eq_true, gd_T, q26 g he, q26 dd h1, hL, h0, if_true, e1, cl2_q, lz, st_q, hne, hd1, e2, i10]
        · refine fin M2 (fst (twB M0 g) (dd + 1) (nG M0 - (dd + 1))) h2 (by rw [F2]; exact hm1) ?_ ?_
          · rw [hs, show twB M0 g dd = false from decide_eq_false (fun q => hE q.2.2), if_neg (by decide)]
          · rw [if_neg hE] at e2
            unfold bX10_twin
            simp only [hkk, nI_pos (show dd < 2 ^ 31 by omega), if_false, cg, cd, nI_pos (show g < 2 ^ 31 by omega), hg40, hd40, false_or, not_false_eq_true, gd_T, q26 g he, q26 dd h1, hL, h0, if_true, e1, cl2_q, lz, st_q, hne, hd1, e2]
      · refine fin M1 (fst (twB M0 g) (dd + 1) (nG M0 - (dd + 1))) h1 hm1 ?_ ?_
        · rw [hs, show twB M0 g dd = false from decide_eq_false (fun q => hL q.2.1), if_neg (by decide)]
        · unfold bX10_twin
          simp only [hkk, nI_pos (show dd < 2 ^ 31 by omega), if_false, cg, cd, nI_pos (show g < 2 ^ 31 by omega), hg40, hd40, false_or, not_false_eq_true, gd_T, q26 g he, q26 dd h1, hL, h0, if_true, e1, cl2_q, lz, st_q, hne, hd1]
theorem ok_twin (S : zSt) (M : zMs) (i : Int32) (h : Tie S M) : zOk Tie [1] (fun y : Int32 => (y).toInt64) (fun _ : Int32 => S) (fX9_twin S i) (fun b : Int32 => b.toInt64) (fX10_twin M i) := by
  rcases ixc i (nG M) (by have := nG40 h.1; omega) with hi | ⟨g, hg, rfl⟩
  · refine thr h (n := 1) (w := 1) (b := 0) (by simp) (by decide) ?_ ?_
    · unfold fX9_twin; rw [dG_out h hi, cx_l]
    · unfold fX10_twin; rw [noGame_out h.1 hi, cl2_s, if_neg i10]
  · have hg4 := nG40 h.1
    have hl := ents_2520 h.1 hg
    have hg40 : ¬ 40 ≤ g := by omega
    have hd40 : ¬ 40 ≤ g := by omega
    have cg : (nI g).toNatClampNeg = g := nI_clamp (by omega)
    have e9 := twin9 h hg
    have hGp : nI (nG M) - 1 = nI (nG M - 1) := nI_pred1 (by omega)
    have e24 : pM M 0 0 0 24 0 = nI (nG M) := nG_e h.1
    have e26 : pM M 0 0 0 26 g = M 26 g := rfl
    by_cases h0 : M 26 g = 0
    · by_cases hn : ents M g = []
      · rw [if_neg (fun q => q.2 hn)] at e9
        obtain ⟨M1, e1, h1, F1⟩ := entries_eq h.1 hg (eqM_ref (M := M) 0)
        rw [hn] at e1
        have e1 : fX10_entries (pM M 0 0 0) (nI g) = some (nI 0, M1) := e1
        refine Or.inl ⟨-1, -1, M1, e9, ?_, by rw [M00_wk F1]; rfl, rfl, tie_hid h (eqH_r S) h1⟩
        unfold fX10_twin
        rw [noGame_in h.1 hg, cl2_s, if_pos rfl, st_s, e24, st_s]
        refine lp_e (bX10_twin (nI g)) 39999 ?_
        unfold bX10_twin
        simp only [hGp, nI_pos (show nG M - 1 < 2 ^ 31 by omega), if_false, cg, nI_pos (show g < 2 ^ 31 by omega), hg40, hd40, false_or, not_false_eq_true, gd_T, e26, h0, if_true, e1, cl2_q, nI_0, Int32.le_refl]
      · rw [if_pos ⟨h0, hn⟩] at e9
        obtain ⟨M1, e1, h1, q1⟩ := twin10 h.1 (eqM_ref (M := M) 0) hg rfl h0 hn (nG M) 40000 (pM M 0 0 0) (nG M) (eqM_ref 0) rfl (Nat.le_refl _) (by omega) rfl
        refine Or.inl ⟨_, _, M1, e9, ?_, q1, rfl, tie_hid h (eqH_r S) h1⟩
        unfold fX10_twin
        rw [noGame_in h.1 hg, cl2_s, if_pos rfl, st_s, e24, st_s]
        rw [Nat.sub_self] at e1
        exact e1
    · rw [if_neg (fun q => h0 q.1)] at e9
      refine Or.inl ⟨-1, -1, pM M 0 0 0, e9, ?_, rfl, rfl, tie_ref h 0⟩
      unfold fX10_twin
      rw [noGame_in h.1 hg, cl2_s, if_pos rfl, st_s, e24, st_s]
      refine lp_e (bX10_twin (nI g)) 39999 ?_
      unfold bX10_twin
      simp only [hGp, nI_pos (show nG M - 1 < 2 ^ 31 by omega), if_false, cg, nI_pos (show g < 2 ^ 31 by omega), hg40, hd40, false_or, not_false_eq_true, gd_T, e26, h0]
end PTW
