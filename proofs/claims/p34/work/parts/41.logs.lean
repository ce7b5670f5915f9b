/-! logged, entryAt -/
def bX10_entries (i_1 : Int32) : (Int32 × zMs) → Option ((Int32 × zMs) ⊕ (Int32 × zMs)) := fun (q5 : (Int32 × zMs)) =>
cl2 (fX10_next q5.2 (0 : Int32) i_1) fun r11 M13 =>
if r11 = (-1 : Int32) then
some (.inr ((q5.1, M13)))
else
st (q5.1 + (1 : Int32)) fun x14 =>
some (.inl (x14, M13))
section PG
variable {S : zSt} {M M0 : zMs} {g b n w p : Nat}
theorem next_eq (h : WM M0) (hg : g < nG M0) (hp : p < 2) (he : eqM M0 M) {r : List Nat} (ha : At M0 M g p r) : ∃ M1, fX10_next M (nI p) (nI g) = some (hdE r, M1) ∧ At M0 M1 g p r.tail ∧ wkF M M1 p := by
  obtain ⟨b, n, w, h45, h46, h47, hb3, hv, rfl⟩ := ha
  rw [bX10_next_eq]
  exact next_lp h hg hp 9030 40000 M b n w (by omega) (by omega) he h45 h46 h47 hb3 hv
theorem rewind_eq (h : WM M0) (hg : g < nG M0) (hp : p < 2) (M : zMs) : ∃ M1, fX10_rewind M (nI p) = some M1 ∧ At M0 M1 g p (ents M0 g) ∧ wkF M M1 p := by
  refine ⟨pM (pM (pM M 45 p 0) 46 p 1) 47 p 0, ?_, ⟨0, 1, 0, ?_, ?_, ?_, by omega, fun h0 => ?_, rem_0 h hg⟩, wkF_t (wkF_t (wkF_p (by omega) _) (wkF_p (by omega) _)) (wkF_p (by omega) _)⟩
  · unfold fX10_rewind
    simp (disch := omega) only [Nat.add_sub_cancel, nI_0, c2I, c3I, c4I, c6I, c8I, c9I, c10I, c15I, c16I, c20I, c30I, c40I, c48I, c60I, c100I, c120I, c159I, c160I, c239I, c240I, c256I, c300I, c318I, c320I, c720I, c840I, c960I, c2520I, c36000I, c1048576I, nI_1, nI_add, pk_mul, nI_pred1, nI_pm1, pk_sub, pk_div, nI_clamp, nI_lz, nI_leI, nI_ltI, nI_eq, nI_z, nI_lez, nI_gez, nI_gtz, nI_m, nI_m2, nI_lem, nI_ltm, nleF, leT, ltT, ltF, eqT, eqF, false_or, or_false, not_false_eq_true, not_true_eq_false, gd_T, st_q, cl_q, cl2_q, cxr_q, cxl_q, i10, if_true, if_false, Bool.false_eq_true]
  · simp (disch := omega) only [pM_s, pMn, nI_0]
  · simp (disch := omega) only [pM_s, pMn]
    rfl
  · simp (disch := omega) only [pM_s, pMn, nI_0]
  · obtain ⟨-, s1, -⟩ := stp_ok h hg h0
    exact ⟨Nat.le_refl _, s1, by omega⟩
theorem At_wk {M1 : zMs} {q : Nat} {r : List Nat} (ha : At M0 M g p r) (hw : wkF M M1 q) (hq : p ≠ q) : At M0 M1 g p r := by
  obtain ⟨b, n, w, h45, h46, h47, hv⟩ := ha
  exact ⟨b, n, w, (hw.2 45 p hq).trans h45, (hw.2 46 p hq).trans h46, (hw.2 47 p hq).trans h47, hv⟩
/-- how long the log is -/
theorem entS_len (M : zMs) (ball bi n : Nat) : (entS M ball bi n).length ≤ 2 + (if n % 10 = 0 then 8 else 0) := by
  by_cases h10 : n % 10 = 0
  · rw [if_pos h10]
    unfold entS
    exact Nat.le_trans (List.length_filterMap_le _ _) (by rw [List.length_range]; decide)
  · rw [if_neg h10, entS_q]
    have e2 : ∀ d w, 2 ≤ w → (List.filterMap (fun w => if pt M ball n w = 0 then none else some (ptE bi n (pt M ball n w))) (List.range' w d)) = [] := by
      intro d
      induction d with
      | zero => intro w _; rfl
      | succ d ih =>
        intro w hw
        have e : pt M ball n w = 0 := by
          unfold pt
          rw [if_neg (by omega), if_neg (by omega), if_neg (fun q => h10 q.1)]
        rw [List.range'_succ, List.filterMap_cons, if_pos e]
        exact ih (w + 1) (by omega)
    rw [qW_c (by omega), qW_c (by omega)]
    have : qW M ball bi n (0 + 1 + 1) = [] := e2 8 2 (by omega)
    rw [this, List.append_nil, List.length_append]
    have a : ∀ v : Nat, (if v = 0 then ([] : List Nat) else [ptE bi n v]).length ≤ 1 := by
      intro v
      by_cases e : v = 0
      · rw [if_pos e]; exact Nat.zero_le _
      · rw [if_neg e]; exact Nat.le_refl _
    have a1 := a (pt M ball n 0)
    have a2 := a (pt M ball n (0 + 1))
    omega
theorem fm_len (f : Nat → List Nat) (hf : ∀ n, (f n).length ≤ 2 + (if (n + 1) % 10 = 0 then 8 else 0)) : ∀ N, ((List.range N).flatMap f).length ≤ 2 * N + 8 * (N / 10) := by
  intro N
  induction N with
  | zero => exact Nat.zero_le _
  | succ N ih =>
    rw [List.range_succ, List.flatMap_append, List.length_append, List.flatMap_singleton]
    have := hf N
    by_cases h10 : (N + 1) % 10 = 0
    · rw [if_pos h10] at this; omega
    · rw [if_neg h10] at this; omega
theorem entB_len (M : zMs) (ball bi : Nat) (h : (M 37 ball).toNatClampNeg ≤ 300) : (entB M ball bi).length ≤ 840 := by
  have := fm_len (fun n => entS M ball bi (n + 1)) (fun n => entS_len M ball bi (n + 1)) (M 37 ball).toNatClampNeg
  unfold entB
  omega
theorem ents_len (h : WM M) (hg : g < nG M) : (ents M g).length ≤ 840 * (3 - nL M g) := by
  have hl : ∀ b, b < 3 - nL M g → (entB M (3 * g + b) b).length ≤ 840 := fun b hb => entB_len M _ _ (stp_ok h hg hb).2.2.1
  unfold ents
  have : ∀ B, B ≤ 3 - nL M g → ((List.range B).flatMap (fun bi => entB M (3 * g + bi) bi)).length ≤ 840 * B := by
    intro B
    induction B with
    | zero => intro _; exact Nat.le_refl _
    | succ B ih =>
      intro hB
      rw [List.range_succ, List.flatMap_append, List.length_append, List.flatMap_singleton]
      have := hl B (by omega)
      have := ih (by omega)
      omega
  exact this _ (Nat.le_refl _)
theorem ents_2520 (h : WM M) (hg : g < nG M) : (ents M g).length ≤ 2520 := Nat.le_trans (ents_len h hg) (by omega)
/-- what an entry is -/
def enOk (e : Nat) : Prop := e < 2 ^ 26 ∧ e % 16 < 8 ∧ e / 1048576 ≤ 60
theorem ptE_ok {b n v : Nat} (hb : b < 3) (hn : n ≤ 300) (h1 : v % 16 ≤ 8) (h2 : v / 16 ≤ 60) (h3 : 1 ≤ v % 16) : enOk (ptE b n v) := by
  unfold enOk ptE
  refine ⟨by omega, by omega, by omega⟩
theorem ents_mem (h : WM M) (hg : g < nG M) {e : Nat} (he : e ∈ ents M g) : enOk e := by
  unfold ents entB entS at he
  obtain ⟨b, hb, he⟩ := List.mem_flatMap.mp he
  obtain ⟨n, hn, he⟩ := List.mem_flatMap.mp he
  obtain ⟨w, hw, he⟩ := List.mem_filterMap.mp he
  have hb := List.mem_range.mp hb
  have hn : n < stp M g b := List.mem_range.mp hn
  have hw := List.mem_range.mp hw
  obtain ⟨-, -, s3, -⟩ := stp_ok h hg hb
  obtain ⟨p1, p2, p3⟩ := pt_ok (n := n + 1) h hg hb (by omega) hn hw
  by_cases v0 : pt M (3 * g + b) (n + 1) w = 0
  · rw [if_pos v0] at he; cases he
  · rw [if_neg v0] at he
    cases he
    exact ptE_ok (by omega) (by omega) p1 p2 (p3 v0)
theorem hdE_cons {e : Nat} {r : List Nat} (he : enOk e) : ¬ hdE (e :: r) = -1 := by
  have := he.1
  exact of_eq_false (nI_m (n := e) (by omega))
theorem entries_lp (h : WM M0) (hg : g < nG M0) : ∀ (r : List Nat) (fuel k : Nat) (M : zMs), eqM M0 M → At M0 M g 0 r → (∀ e, e ∈ r → enOk e) → r.length < fuel → ∃ M1, lp (bX10_entries (nI g)) fuel (nI k, M) = some (nI (k + r.length), M1) ∧ eqM M0 M1 ∧ wkF M M1 0 := by
  intro r
  induction r with
  | nil =>
    intro fuel k M he ha _ hf
    obtain ⟨f, rfl⟩ : ∃ f, fuel = f + 1 := ⟨fuel - 1, by omega⟩
    obtain ⟨M1, e1, a1, F1⟩ := next_eq h hg (by omega) he ha
    rw [nI_0] at e1
    have eb : bX10_entries (nI g) (nI k, M) = some (.inr (nI k, M1)) := by
      unfold bX10_entries
      simp only [e1, cl2_s]
      exact if_pos rfl
    exact ⟨M1, lp_e _ f eb, eqM_t he (wkF_eqM F1), F1⟩
  | cons e r ih =>
    intro fuel k M he ha hr hf
    obtain ⟨f, rfl⟩ : ∃ f, fuel = f + 1 := ⟨fuel - 1, by omega⟩
    obtain ⟨M1, e1, a1, F1⟩ := next_eq h hg (by omega) he ha
    rw [nI_0] at e1
    have eb : bX10_entries (nI g) (nI k, M) = some (.inl (nI (k + 1), M1)) := by
      unfold bX10_entries
      simp only [e1, cl2_s, if_neg (hdE_cons (hr e (List.mem_cons_self ..))), st_s, nI_1]
    rw [lp_s _ f eb]
    obtain ⟨M2, e2, h2, F2⟩ := ih f (k + 1) M1 (eqM_t he (wkF_eqM F1)) a1 (fun e1 he1 => hr e1 (List.mem_cons_of_mem _ he1)) (by simp only [List.length_cons] at hf; omega)
    exact ⟨M2, by rw [e2, List.length_cons]; congr 3; omega, h2, wkF_t F1 F2⟩
theorem entries_eq (h : WM M0) (hg : g < nG M0) (he : eqM M0 M) : ∃ M1, fX10_entries M (nI g) = some (nI (ents M0 g).length, M1) ∧ eqM M0 M1 ∧ wkF M M1 0 := by
  obtain ⟨M1, e1, a1, F1⟩ := rewind_eq h hg (show 0 < 2 by omega) M
  rw [nI_0] at e1
  have hl := ents_2520 h hg
  obtain ⟨M2, e2, h2, F2⟩ := entries_lp h hg (ents M0 g) 40000 0 M1 (eqM_t he (wkF_eqM F1)) a1 (fun e hm => ents_mem h hg hm) (by omega)
  refine ⟨M2, ?_, h2, wkF_t F1 F2⟩
  unfold fX10_entries
  rw [st_s, e1, cl_s]
  rw [nI_0, Nat.zero_add] at e2
  exact e2
theorem M00_wk {M1 : zMs} {p : Nat} (F : wkF M M1 p) : M1 0 0 = M 0 0 := congrFun (F.1 0 (by omega) (by omega) (by omega)) 0
theorem log_len (h : Tie S M) (hg : g < nG M) : zI S (3, g, 0) 4 = nI (ents M g).length := (h.2.2.2 g hg).1
theorem ok_logged (S : zSt) (M : zMs) (i : Int32) (h : Tie S M) : zOk Tie [1] (fun y : Int32 => (y).toInt64) (fun _ : Int32 => S) (fX9_logged S i) (fun b : Int32 => b.toInt64) (fX10_logged M i) := by
  rcases ixc i (nG M) (by have := nG40 h.1; omega) with hi | ⟨g, hg, rfl⟩
  · refine thr h (n := 1) (w := 1) (b := 0) (by simp) (by decide) ?_ ?_
    · unfold fX9_logged; rw [dG_out h hi, cx_l]
    · unfold fX10_logged; rw [noGame_out h.1 hi, cl2_s, if_neg i10]
  · obtain ⟨M1, e1, h1, F1⟩ := entries_eq h.1 hg (eqM_ref (M := M) 0)
    refine Or.inl ⟨nI (ents M g).length, nI (ents M g).length, M1, ?_, ?_, ?_, rfl, tie_hid h (eqH_r S) h1⟩
    · unfold fX9_logged
      rw [dG_in h hg, cx_r, log_len h hg]
    · unfold fX10_logged
      rw [noGame_in h.1 hg, cl2_s, if_pos rfl, e1, cl2_s]
    · rw [M00_wk F1]; rfl
theorem entryOf_eq (h : Tie S M) (hg : g < nG M) {k e : Nat} (hk : (ents M g)[k]? = some e) : fX2_entryOf S g (nI k) = some (lN e) := by
  have hl := ents_2520 h.1 hg
  have hk2 : k < (ents M g).length := (List.getElem?_eq_some_iff.mp hk).1
  have e1 : zL S (16, g, 0) k = lN e := (h.2.2.2 g hg).2 k e hk
  unfold fX2_entryOf
  simp (disch := omega) only [Nat.add_sub_cancel, nI_0, c2I, c3I, c4I, c6I, c8I, c9I, c10I, c15I, c16I, c20I, c30I, c40I, c48I, c60I, c100I, c120I, c159I, c160I, c239I, c240I, c256I, c300I, c318I, c320I, c720I, c840I, c960I, c2520I, c36000I, c1048576I, nI_1, nI_add, pk_mul, nI_pred1, nI_pm1, pk_sub, pk_div, nI_clamp, nI_lz, nI_leI, nI_ltI, nI_eq, nI_z, nI_lez, nI_gez, nI_gtz, nI_m, nI_m2, nI_lem, nI_ltm, nleF, leT, ltT, ltF, eqT, eqF, false_or, or_false, not_false_eq_true, not_true_eq_false, gd_T, st_q, cl_q, cl2_q, cxr_q, cxl_q, i10, if_true, if_false, Bool.false_eq_true, e1]
theorem dI_in {i n : Int32} (h0 : ¬ i < 0) (h1 : i < n) : fX9_demandIndex S i n = some (.inr ()) := by
  unfold fX9_demandIndex
  rw [st_s, if_neg h0]
  first | rw [if_pos h1] | rw [if_neg (Int32.not_le.mpr h1)]
theorem dI_out {i n : Int32} (h : i < 0 ∨ n ≤ i) : fX9_demandIndex S i n = some (.inl (1, S)) := by
  unfold fX9_demandIndex
  rw [st_s]
  by_cases h0 : i < 0
  · rw [if_pos h0]
  · rw [if_neg h0]
    first | rw [if_neg (nlt_of (h.resolve_left h0))] | rw [if_pos (h.resolve_left h0)]
def bX10_entryAt (i_1 : Int32) (i_2 : Int32) : (Int32 × Int32 × zMs) → Option ((Int32 × Int32 × zMs) ⊕ (Int64 × zMs)) := fun (q24 : (Int32 × Int32 × zMs)) =>
if i_2 ≤ q24.2.1 then
some (.inr ((q24.1.toInt64, q24.2.2)))
else
cl2 (fX10_next q24.2.2 (0 : Int32) i_1) fun r30 M32 =>
st r30 fun x33 =>
st (q24.2.1 + (1 : Int32)) fun x34 =>
some (.inl (x33, x34, M32))
def eaX (i_1 i_2 : Int32) (M14 : zMs) : Option (Int64 × zMs) :=
cl (fX10_rewind M14 (0 : Int32)) fun M18 =>
cl2 (fX10_next M18 (0 : Int32) i_1) fun r19 M21 =>
st r19 fun x22 =>
st (0 : Int32) fun x23 =>
lp (bX10_entryAt i_1 i_2) 40000 (x22, x23, M21)
def entryX (M : zMs) (i_1 : Int32) (i_2 : Int32) : Option (Int64 × zMs) :=
cl (fX10_isGame M i_1) fun r1 =>
st (fun (y4 : Int32) (S6 : zMs) => (st y4 fun x8 =>
st (fun (y9 : Int32) => (cl2 (fX10_refused S6 y9) fun r12 M14 =>
if r12 = 0 then
eaX i_1 i_2 M14
else
some (((0 : Int64), M14)) : Option (Int64 × zMs))) fun j11 =>
if x8 = 0 then
j11 (1 : Int32)
else
j11 (0 : Int32) : Option (Int64 × zMs))) fun j7 =>
st (fun (S35 : zMs) => (j7 (0 : Int32) S35 : Option (Int64 × zMs))) fun j36 =>
if r1 = 0 then
j36 M
else
if i_2 < 0 then
j36 M
else
cl2 (fX10_entries M i_1) fun r37 M39 =>
if r37 ≤ i_2 then
j36 M39
else
j7 (1 : Int32) M39
theorem entryX_eq (M : zMs) (i j : Int32) : fX10_entryAt M i j = entryX M i j := rfl
theorem entryAt_lp (h : WM M0) (hg : g < nG M0) (k : Nat) (hk : k < 2520) : ∀ (d j fuel : Nat) (M : zMs) (r : List Nat) (e : Nat), j + d = k → d < fuel → eqM M0 M → At M0 M g 0 r.tail → r[d]? = some e → ∃ M1, lp (bX10_entryAt (nI g) (nI k)) fuel (hdE r, nI j, M) = some ((nI e).toInt64, M1) ∧ eqM M0 M1 ∧ wkF M M1 0 := by
  intro d
  induction d with
  | zero =>
    intro j fuel M r e hj hf he ha hr
    obtain ⟨f, rfl⟩ : ∃ f, fuel = f + 1 := ⟨fuel - 1, by omega⟩
    have hj : j = k := by omega
    subst hj
    match r, hr with
    | xx :: rr, hr =>
      have hr : xx = e := Option.some.inj hr
      subst hr
      have eb : bX10_entryAt (nI g) (nI j) (hdE (xx :: rr), nI j, M) = some (.inr ((nI xx).toInt64, M)) := by
        unfold bX10_entryAt
        exact if_pos (Int32.le_refl _)
      exact ⟨M, lp_e _ f eb, he, fun _ _ _ _ => rfl, fun _ _ _ => rfl⟩
  | succ d ih =>
    intro j fuel M r e hj hf he ha hr
    obtain ⟨f, rfl⟩ : ∃ f, fuel = f + 1 := ⟨fuel - 1, by omega⟩
    match r, hr with
    | xx :: rr, hr =>
      have hr : rr[d]? = some e := hr
      obtain ⟨M1, e1, a1, F1⟩ := next_eq h hg (by omega) he ha
      rw [nI_0] at e1
      have eb : bX10_entryAt (nI g) (nI k) (hdE (xx :: rr), nI j, M) = some (.inl (hdE rr, nI (j + 1), M1)) := by
        unfold bX10_entryAt
        have e1 : fX10_next M 0 (nI g) = some (hdE rr, M1) := e1
        simp only [if_neg (nI_ge (show j < k by omega) (by omega)), e1, cl2_s, st_s, nI_1]
      rw [lp_s _ f eb]
      obtain ⟨M2, e2, h2, F2⟩ := ih (j + 1) f M1 rr e (by omega) (by omega) (eqM_t he (wkF_eqM F1)) a1 hr
      exact ⟨M2, e2, h2, wkF_t F1 F2⟩
theorem eaX_eq (h : WM M0) (hg : g < nG M0) (he : eqM M0 M) {k e : Nat} (hk : (ents M0 g)[k]? = some e) : ∃ M1, eaX (nI g) (nI k) M = some ((nI e).toInt64, M1) ∧ eqM M0 M1 ∧ M1 0 0 = M 0 0 := by
  have hl := ents_2520 h hg
  have hk2 : k < (ents M0 g).length := (List.getElem?_eq_some_iff.mp hk).1
  obtain ⟨M2, e2, a2, F2⟩ := rewind_eq h hg (show 0 < 2 by omega) M
  rw [nI_0] at e2
  have h2 : eqM M0 M2 := eqM_t he (wkF_eqM F2)
  obtain ⟨M3, e3, a3, F3⟩ := next_eq h hg (by omega) h2 a2
  rw [nI_0] at e3
  obtain ⟨M4, e4, h4, F4⟩ := entryAt_lp h hg k (by omega) k 0 40000 M3 (ents M0 g) e (by omega) (by omega) (eqM_t h2 (wkF_eqM F3)) a3 hk
  refine ⟨M4, ?_, h4, by rw [M00_wk F4, M00_wk F3, M00_wk F2]⟩
  unfold eaX
  rw [e2, cl_s, e3, cl2_s, st_s, st_s]
  rw [nI_0] at e4
  exact e4
theorem ok_entryAt (S : zSt) (M : zMs) (i j : Int32) (h : Tie S M) : zOk Tie [1] (fun y : Int64 => y) (fun _ : Int64 => S) (fX9_entryAt S i j) (fun b : Int64 => b) (fX10_entryAt M i j) := by
  have out0 : ∀ M2 : zMs, fX10_refused M2 1 = some (1, pM M2 0 0 1) := fun M2 => refused_n M2 i10
  rw [entryX_eq]
  rcases ixc i (nG M) (by have := nG40 h.1; omega) with hi | ⟨g, hg, rfl⟩
  · refine thr h (n := 1) (w := 1) (b := 0) (by simp) (by decide) ?_ ?_
    · unfold fX9_entryAt; rw [dG_out h hi, cx_l]
    · unfold entryX
      simp only [isGame_out h.1 hi, cl_s, st_s, if_true, out0, cl2_s, i10, if_false]
  · have hl := ents_2520 h.1 hg
    by_cases hj0 : j < 0
    · refine thr h (n := 1) (w := 1) (b := 0) (by simp) (by decide) ?_ ?_
      · unfold fX9_entryAt; rw [dG_in h hg, cx_r, dI_out (Or.inl hj0), cx_l]
      · unfold entryX
        simp only [isGame_in h.1 hg, hj0, cl_s, st_s, if_true, out0, cl2_s, i10, if_false]
    · obtain ⟨k, hk, rfl⟩ := nI_of hj0
      obtain ⟨M1, e1, h1, F1⟩ := entries_eq h.1 hg (eqM_r M)
      by_cases hkl : k < (ents M g).length
      · obtain ⟨e, he⟩ : ∃ e, (ents M g)[k]? = some e := ⟨_, List.getElem?_eq_getElem hkl⟩
        have hok := ents_mem h.1 hg (List.mem_of_getElem? he)
        obtain ⟨M4, e4, h4, F4⟩ := eaX_eq h.1 hg (eqM_t h1 (eqM_ref 0)) he
        refine Or.inl ⟨lN e, (nI e).toInt64, M4, ?_, ?_, ?_, (nI_l (by have := hok.1; omega)).symm, tie_hid h (eqH_r S) h4⟩
        · unfold fX9_entryAt
          rw [dG_in h hg, cx_r, log_len h hg, dI_in hj0 (nI_lt hkl (by omega)), cx_r, entryOf_eq h hg he, cl_s]
        · unfold entryX
          simp only [isGame_in h.1 hg, hj0, cl_s, st_s, if_true, cl2_s, i10, if_false, e1, nI_leI (show (ents M g).length < 2 ^ 31 by omega) hk, show ¬ (ents M g).length ≤ k by omega, refused_0, e4]
        · rw [F4]; rfl
      · refine Or.inr ⟨(1, S), 0, pM M1 0 0 1, ?_, ?_, by simp, rfl, tie_hid h (eqH_r S) (eqM_t h1 (eqM_ref 1))⟩
        · unfold fX9_entryAt; rw [dG_in h hg, cx_r, log_len h hg, dI_out (Or.inr (nI_le (by omega) (by omega))), cx_l]
        · unfold entryX
          simp only [isGame_in h.1 hg, hj0, cl_s, st_s, if_true, out0, cl2_s, i10, if_false, e1, nI_leI (show (ents M g).length < 2 ^ 31 by omega) hk, show (ents M g).length ≤ k by omega]
end PG
