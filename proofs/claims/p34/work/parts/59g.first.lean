/-! what is owed of the calls; the first states -/
def zSteps (T : zSt → zMs → Prop) : Prop :=
  (∀ S M, T S M → zV S (10, 0, 0) = true) ∧
  (∀ (S : zSt) (M : zMs) (i_1 i_2 : Int32), T S M → zOk T [2, 3] (fun y : (Int32 × zSt) => (y.1).toInt64) (fun y : (Int32 × zSt) => y.2) (fX9_addTable S i_1 i_2) (fun b : Int32 => b.toInt64) (fX10_addTable M i_1 i_2)) ∧
  (∀ (S : zSt) (M : zMs) (i_1 i_2 i_3 i_4 i_5 : Int32), T S M → zOk T [1, 2, 3] (fun y : (Int32 × zSt) => (y.1).toInt64) (fun y : (Int32 × zSt) => y.2) (fX9_addBumper S i_1 i_2 i_3 i_4 i_5) (fun b : Int32 => b.toInt64) (fX10_addBumper M i_1 i_2 i_3 i_4 i_5)) ∧
  (∀ (S : zSt) (M : zMs) (i_1 i_2 i_3 : Int32), T S M → zOk T [1, 2, 3] (fun y : (Int32 × zSt) => (y.1).toInt64) (fun y : (Int32 × zSt) => y.2) (fX9_setPoints S i_1 i_2 i_3) (fun b : Int32 => b.toInt64) (fX10_setPoints M i_1 i_2 i_3)) ∧
  (∀ (S : zSt) (M : zMs) (i_1 i_2 i_3 i_4 i_5 : Int32), T S M → zOk T [1, 2, 3] (fun y : (Int32 × zSt) => (if y.1 = 0 then (0 : Int64) else 1)) (fun y : (Int32 × zSt) => (pN y.2 (10, 0, 0) 0 (zN y.2 (10, 0, 0) 0 + 1))) (fX9_setMode S i_1 i_2 i_3 i_4 i_5) (fun b : Int32 => (if b = 0 then (0 : Int64) else 1)) (fX10_setMode M i_1 i_2 i_3 i_4 i_5)) ∧
  (∀ S M, T S M → ∃ n M1, fX9_tables S = some n ∧ fX10_tables M = some (n, M1) ∧ T S M1) ∧
  (∀ (S : zSt) (M : zMs) (i_1 i_2 : Int32), T S M → zOk T [1, 3] (fun y : (Int32 × zSt) => (y.1).toInt64) (fun y : (Int32 × zSt) => y.2) (fX9_stick S i_1 i_2) (fun b : Int32 => b.toInt64) (fX10_stick M i_1 i_2)) ∧
  (∀ (S : zSt) (M : zMs) (i_1 i_2 : Int32), T S M → zOk T [1] (fun y : Int32 => (if y = 0 then (0 : Int64) else 1)) (fun y : Int32 => S) (fX9_sticks S i_1 i_2) (fun b : Int32 => (if b = 0 then (0 : Int64) else 1)) (fX10_sticks M i_1 i_2)) ∧
  (∀ (S : zSt) (M : zMs) (i_1 i_2 : Int32), T S M → zOk T [1] (fun y : Int32 => (y).toInt64) (fun y : Int32 => S) (fX9_wear S i_1 i_2) (fun b : Int32 => b.toInt64) (fX10_wear M i_1 i_2)) ∧
  (∀ (S : zSt) (M : zMs) (i_1 : Int32), T S M → zOk T [1, 3] (fun y : (Int32 × zSt) => (y.1).toInt64) (fun y : (Int32 × zSt) => y.2) (fX9_coin S i_1) (fun b : Int32 => b.toInt64) (fX10_coin M i_1)) ∧
  (∀ (S : zSt) (M : zMs) (i_1 i_2 i_3 i_4 : Int32), T S M → zOk T [1, 2, 3] (fun y : (Int32 × zSt) => (y.1).toInt64) (fun y : (Int32 × zSt) => (pV y.2 (1, 0, 0) false)) (fX9_shoot S i_1 i_2 i_3 i_4) (fun b : Int32 => b.toInt64) (fX10_shoot M i_1 i_2 i_3 i_4)) ∧
  (∀ (S : zSt) (M : zMs) (i_1 : Int32), T S M → zOk T [1] (fun y : Int32 => (y).toInt64) (fun y : Int32 => S) (fX9_gameAt S i_1) (fun b : Int32 => b.toInt64) (fX10_gameAt M i_1)) ∧
  (∀ S M, T S M → ∃ n M1, fX9_games S = some n ∧ fX10_games M = some (n, M1) ∧ T S M1) ∧
  (∀ (S : zSt) (M : zMs) (i_1 : Int32), T S M → zOk T [1] (fun y : Int32 => (y).toInt64) (fun y : Int32 => S) (fX9_ballsLeft S i_1) (fun b : Int32 => b.toInt64) (fX10_ballsLeft M i_1)) ∧
  (∀ (S : zSt) (M : zMs) (i_1 : Int32), T S M → zOk T [1] (fun y : Int32 => (y).toInt64) (fun y : Int32 => S) (fX9_stack S i_1) (fun b : Int32 => b.toInt64) (fX10_stack M i_1)) ∧
  (∀ (S : zSt) (M : zMs) (i_1 : Int32), T S M → zOk T [1] (fun y : Int32 => (y).toInt64) (fun y : Int32 => S) (fX9_score S i_1) (fun b : Int32 => b.toInt64) (fX10_score M i_1)) ∧
  (∀ (S : zSt) (M : zMs) (i_1 : Int32), T S M → zOk T [1] (fun y : (Int32 × zSt) => (y.1).toInt64) (fun y : (Int32 × zSt) => y.2) (fX9_scoreByLog S i_1) (fun b : Int32 => b.toInt64) (fX10_scoreByLog M i_1)) ∧
  (∀ (S : zSt) (M : zMs) (i_1 : Int32), T S M → zOk T [1] (fun y : (Int32 × zSt) => (y.1).toInt64) (fun y : (Int32 × zSt) => y.2) (fX9_valid S i_1) (fun b : Int32 => b.toInt64) (fX10_valid M i_1)) ∧
  (∀ (S : zSt) (M : zMs) (i_1 : Int32), T S M → zOk T [1] (fun y : Int32 => (y).toInt64) (fun y : Int32 => S) (fX9_logged S i_1) (fun b : Int32 => b.toInt64) (fX10_logged M i_1)) ∧
  (∀ (S : zSt) (M : zMs) (i_1 i_2 : Int32), T S M → zOk T [1] (fun y : Int64 => y) (fun y : Int64 => S) (fX9_entryAt S i_1 i_2) (fun b : Int64 => b) (fX10_entryAt M i_1 i_2)) ∧
  (∀ (S : zSt) (M : zMs) (i_1 : Int32), T S M → zOk T [1] (fun y : Int32 => (y).toInt64) (fun y : Int32 => S) (fX9_twin S i_1) (fun b : Int32 => b.toInt64) (fX10_twin M i_1)) ∧
  (∀ (S : zSt) (M : zMs) (i_1 i_2 : Int32), T S M → zOk T [1, 2] (fun y : (Int32 × zSt) => (y.1).toInt64) (fun y : (Int32 × zSt) => y.2) (fX9_high S i_1 i_2) (fun b : Int32 => b.toInt64) (fX10_high M i_1 i_2)) ∧
  (∀ (S : zSt) (M : zMs) (i_1 i_2 : Int32), T S M → zOk T [1, 2, 3] (fun y : (Int32 × zSt) => (y.1).toInt64) (fun y : (Int32 × zSt) => y.2) (fX9_rob S i_1 i_2) (fun b : Int32 => b.toInt64) (fX10_rob M i_1 i_2)) ∧
  (∀ (S : zSt) (M : zMs) (i_1 : Int32), T S M → zOk T [1] (fun y : Int32 => (y).toInt64) (fun y : Int32 => S) (fX9_box S i_1) (fun b : Int32 => b.toInt64) (fX10_box M i_1)) ∧
  (∀ (S : zSt) (M : zMs) (i_1 : Int32), T S M → zOk T [1] (fun y : Int32 => (y).toInt64) (fun y : Int32 => S) (fX9_missing S i_1) (fun b : Int32 => b.toInt64) (fX10_missing M i_1)) ∧
  (∀ (S : zSt) (M : zMs) (i_1 i_2 i_3 : Int32), T S M → zOk T [1, 2, 3] (fun y : (Int32 × zSt) => (y.1).toInt64) (fun y : (Int32 × zSt) => y.2) (fX9_load S i_1 i_2 i_3) (fun b : Int32 => b.toInt64) (fX10_load_ M i_1 i_2 i_3)) ∧
  (∀ (S : zSt) (M : zMs) (i_1 i_2 : Int32), T S M → zOk T [1, 2] (fun y : Int32 => (y).toInt64) (fun y : Int32 => S) (fX9_parts S i_1 i_2) (fun b : Int32 => b.toInt64) (fX10_parts M i_1 i_2)) ∧
  (∀ (S : zSt) (M : zMs) (i_1 : Int32), T S M → zOk T [2] (fun y : Int32 => (y).toInt64) (fun y : Int32 => S) (fX9_wanted S i_1) (fun b : Int32 => b.toInt64) (fX10_wanted M i_1)) ∧
  (∀ (S : zSt) (M : zMs) (i_1 : Int32), T S M → zOk T [1] (fun y : (Int32 × zSt) => (y.1).toInt64) (fun y : (Int32 × zSt) => y.2) (fX9_way S i_1) (fun b : Int32 => b.toInt64) (fX10_way M i_1)) ∧
  (∀ (S : zSt) (M : zMs) (i_1 i_2 : Int32), T S M → zOk T [1] (fun y : (Int32 × zSt) => (y.1).toInt64) (fun y : (Int32 × zSt) => y.2) (fX9_planned S i_1 i_2) (fun b : Int32 => b.toInt64) (fX10_planned M i_1 i_2)) ∧
  (∀ (S : zSt) (M : zMs) (i_1 : Int32), T S M → zOk T [1, 3] (fun y : (Int32 × zSt) => (y.1).toInt64) (fun y : (Int32 × zSt) => y.2) (fX9_go S i_1) (fun b : Int32 => b.toInt64) (fX10_go M i_1)) ∧
  (∀ (S : zSt) (M : zMs) (i_1 : Int32), T S M → zOk T [1] (fun y : Int32 => (y).toInt64) (fun y : Int32 => S) (fX9_vanAt S i_1) (fun b : Int32 => b.toInt64) (fX10_vanAt M i_1))
theorem zsteps_tie : zSteps Tie := ⟨fun _ _ h => h.2.2.1.1,
  fun S M i j h => ok_addTable S M i j h, fun S M a b c d f h => ok_addBumper S M a b c d f h, fun S M a b c h => ok_setPoints S M a b c h, fun S M a b c d f h => ok_setMode S M a b c d f h,
  fun S M h => ok_tables S M h, fun S M a b h => ok_stick S M a b h, fun S M a b h => ok_sticks S M a b h, fun S M a b h => ok_wear S M a b h, fun S M a h => ok_coin S M a h, fun S M a b c d h => ok_shoot S M a b c d h,
  fun S M a h => ok_gameAt S M a h, fun S M h => ok_games S M h, fun S M a h => ok_ballsLeft S M a h, fun S M a h => ok_stack S M a h, fun S M a h => ok_score S M a h, fun S M a h => ok_scoreByLog S M a h, fun S M a h => ok_valid S M a h, fun S M a h => ok_logged S M a h,
  fun S M a b h => ok_entryAt S M a b h, fun S M a h => ok_twin S M a h, fun S M a b h => ok_high S M a b h, fun S M a b h => ok_rob S M a b h, fun S M a h => ok_box S M a h, fun S M a h => ok_missing S M a h, fun S M a b c h => ok_load S M a b c h, fun S M a b h => ok_parts S M a b h,
  fun S M a h => ok_wanted S M a h, fun S M a h => ok_way S M a h, fun S M a b h => ok_planned S M a b h, fun S M a h => ok_go S M a h, fun S M a h => ok_vanAt S M a h⟩
section PFS
variable {S S1 : zSt} {M M1 : zMs}
def zS0 : zSt := (fun _ _ => 0, fun _ _ => 0, fun _ _ => none, fun _ _ => 0, fun _ => false)
def zM0 : zMs := fun _ _ => 0
/-- a state of zeros, its names -/
def zZ (S : zSt) (cs : List zId) : Prop := (∀ c k, zI S c k = 0) ∧ (∀ c k, zL S c k = 0) ∧ (∀ c k, zQ S c k = none) ∧ (∀ c k, zN S c k = 0) ∧ ∀ d, zV S d = decide (d ∈ cs)
theorem zZ_nw {cs : List zId} {c : zId} {I : Nat → Int32} (h : zZ S cs) (hI : ∀ k, I k = 0) : zZ (nw S c I (fun _ => 0) (fun _ => none) (fun _ => 0)) (c :: cs) := by
  obtain ⟨h1, h2, h3, h4, h5⟩ := h
  refine ⟨fun d k => ?_, fun d k => ?_, fun d k => ?_, fun d k => ?_, fun d => ?_⟩
  · rw [zI_nw]
    by_cases e : d = c
    · rw [if_pos e]; exact hI k
    · rw [if_neg e]; exact h1 d k
  · rw [zL_nw]
    by_cases e : d = c
    · rw [if_pos e]
    · rw [if_neg e]; exact h2 d k
  · rw [zQ_nw]
    by_cases e : d = c
    · rw [if_pos e]
    · rw [if_neg e]; exact h3 d k
  · rw [zN_nw]
    by_cases e : d = c
    · rw [if_pos e]
    · rw [if_neg e]; exact h4 d k
  · rw [zV_nw, h5 d]
    by_cases e : d = c
    · rw [if_pos e]
      exact (decide_eq_true (by rw [e]; exact List.mem_cons_self ..)).symm
    · rw [if_neg e]
      by_cases q : d ∈ cs
      · rw [decide_eq_true q, decide_eq_true (List.mem_cons_of_mem _ q)]
      · rw [decide_eq_false q, decide_eq_false (fun r => (List.mem_cons.mp r).elim e q)]
theorem zZ_st {β : Type} {cs : List zId} {c : zId} {I : Nat → Int32} (h : zZ S cs) (hc : decide (c ∈ cs) = false) (hI : ∀ k, I k = 0) (kk : zSt → Option β) : ∃ S1, gd (zV S c = false) (st (nw S c I (fun _ => 0) (fun _ => none) (fun _ => 0)) kk) = kk S1 ∧ zZ S1 (c :: cs) :=
  ⟨nw S c I (fun _ => 0) (fun _ => none) (fun _ => 0), by rw [gd_t (by rw [h.2.2.2.2 c]; exact hc), st_s], zZ_nw h hI⟩
theorem gD0_2 (k : Nat) : ([(0 : Int32), (0 : Int32)] : List Int32).getD k 0 = 0 := by
  rcases k with _ | _ | k <;> rfl
theorem gD0_4 (k : Nat) : ([(0 : Int32), (0 : Int32), (0 : Int32), (0 : Int32)] : List Int32).getD k 0 = 0 := by
  rcases k with _ | _ | _ | _ | k <;> rfl
theorem gD0_5 (k : Nat) : ([(0 : Int32), (0 : Int32), (0 : Int32), (0 : Int32), (0 : Int32)] : List Int32).getD k 0 = 0 := by
  rcases k with _ | _ | _ | _ | _ | k <;> rfl
theorem gD0_9 (k : Nat) : ([(0 : Int32), (0 : Int32), (0 : Int32), (0 : Int32), (0 : Int32), (0 : Int32), (0 : Int32), (0 : Int32), (0 : Int32)] : List Int32).getD k 0 = 0 := by
  rcases k with _ | _ | _ | _ | _ | _ | _ | _ | _ | k <;> rfl
theorem zZ_J {cs : List zId} {a : Nat} (h : zZ S cs) (hc : decide ((0, a, 0) ∈ cs) = false) : ∃ S1, fJ_init S a = some S1 ∧ zZ S1 ((0, a, 0) :: cs) :=
  ⟨nw S (0, a, 0) (fun _ => 0) (fun _ => 0) (fun _ => none) (fun _ => 0), by unfold fJ_init; rw [gd_t (by rw [h.2.2.2.2]; exact hc)], zZ_nw h (fun _ => rfl)⟩
theorem zZ_8 {cs : List zId} {a : Nat} (h : zZ S cs) (h1 : decide ((20, a, 0) ∈ cs) = false) (h2 : decide ((9, a, 0) ∈ (20, a, 0) :: cs) = false) : ∃ S1, fX8_init S a = some S1 ∧ zZ S1 ((9, a, 0) :: (20, a, 0) :: cs) := by
  unfold fX8_init
  obtain ⟨A, eA, zA⟩ := zZ_st h h1 (fun _ => rfl) (fun S3 => gd (zV S3 (9, a, 0) = false) (st (nw S3 (9, a, 0) (fun k => ([(0 : Int32), (0 : Int32)] : List Int32).getD k 0) (fun _ => 0) (fun _ => none) (fun _ => 0)) fun S5 => some (S5)))
  rw [eA]
  obtain ⟨B, eB, zB⟩ := zZ_st zA h2 gD0_2 (fun S5 => some S5)
  exact ⟨B, eB, zB⟩
theorem zZ_5 {cs : List zId} {a b : Nat} (h : zZ S cs) (h1 : decide ((15, a, b) ∈ cs) = false) (h2 : decide ((14, a, b) ∈ (15, a, b) :: cs) = false) (h3 : decide ((6, a, b) ∈ (14, a, b) :: (15, a, b) :: cs) = false) : ∃ S1, fX5_init S a b = some S1 ∧ zZ S1 ((6, a, b) :: (14, a, b) :: (15, a, b) :: cs) := by
  unfold fX5_init
  obtain ⟨A, eA, zA⟩ := zZ_st h h1 (fun _ => rfl) (fun S4 => gd (zV S4 (14, a, b) = false) (st (nw S4 (14, a, b) (fun _ => 0) (fun _ => 0) (fun _ => none) (fun _ => 0)) fun S6 =>
gd (zV S6 (6, a, b) = false) (st (nw S6 (6, a, b) (fun k => ([(0 : Int32), (0 : Int32), (0 : Int32), (0 : Int32)] : List Int32).getD k 0) (fun _ => 0) (fun _ => none) (fun _ => 0)) fun S8 => some (S8))))
  rw [eA]
  obtain ⟨B, eB, zB⟩ := zZ_st zA h2 (fun _ => rfl) (fun S6 => gd (zV S6 (6, a, b) = false) (st (nw S6 (6, a, b) (fun k => ([(0 : Int32), (0 : Int32), (0 : Int32), (0 : Int32)] : List Int32).getD k 0) (fun _ => 0) (fun _ => none) (fun _ => 0)) fun S8 => some (S8)))
  rw [eB]
  obtain ⟨C, eC, zC⟩ := zZ_st zB h3 gD0_4 (fun S8 => some S8)
  exact ⟨C, eC, zC⟩
theorem zZ_4 {cs : List zId} (h : zZ S cs) (h1 : decide ((19, 0, 0) ∈ cs) = false) (h2 : decide ((18, 0, 0) ∈ (19, 0, 0) :: cs) = false) (h3 : decide ((17, 0, 0) ∈ (18, 0, 0) :: (19, 0, 0) :: cs) = false) (h4 : decide ((5, 0, 0) ∈ (17, 0, 0) :: (18, 0, 0) :: (19, 0, 0) :: cs) = false) : ∃ S1, fX4_init S = some S1 ∧ zZ S1 ((5, 0, 0) :: (17, 0, 0) :: (18, 0, 0) :: (19, 0, 0) :: cs) := by
  unfold fX4_init
  obtain ⟨A, eA, zA⟩ := zZ_st h h1 (fun _ => rfl) (fun S5 => gd (zV S5 (18, 0, 0) = false) (st (nw S5 (18, 0, 0) (fun _ => 0) (fun _ => 0) (fun _ => none) (fun _ => 0)) fun S7 =>
gd (zV S7 (17, 0, 0) = false) (st (nw S7 (17, 0, 0) (fun _ => 0) (fun _ => 0) (fun _ => none) (fun _ => 0)) fun S9 =>
gd (zV S9 (5, 0, 0) = false) (st (nw S9 (5, 0, 0) (fun k => ([(0 : Int32), (0 : Int32), (0 : Int32), (0 : Int32), (0 : Int32)] : List Int32).getD k 0) (fun _ => 0) (fun _ => none) (fun _ => 0)) fun S11 => some (S11)))))
  rw [eA]
  obtain ⟨B, eB, zB⟩ := zZ_st zA h2 (fun _ => rfl) (fun S7 => gd (zV S7 (17, 0, 0) = false) (st (nw S7 (17, 0, 0) (fun _ => 0) (fun _ => 0) (fun _ => none) (fun _ => 0)) fun S9 =>
gd (zV S9 (5, 0, 0) = false) (st (nw S9 (5, 0, 0) (fun k => ([(0 : Int32), (0 : Int32), (0 : Int32), (0 : Int32), (0 : Int32)] : List Int32).getD k 0) (fun _ => 0) (fun _ => none) (fun _ => 0)) fun S11 => some (S11))))
  rw [eB]
  obtain ⟨C, eC, zC⟩ := zZ_st zB h3 (fun _ => rfl) (fun S9 => gd (zV S9 (5, 0, 0) = false) (st (nw S9 (5, 0, 0) (fun k => ([(0 : Int32), (0 : Int32), (0 : Int32), (0 : Int32), (0 : Int32)] : List Int32).getD k 0) (fun _ => 0) (fun _ => none) (fun _ => 0)) fun S11 => some (S11)))
  rw [eC]
  obtain ⟨D, eD, zD⟩ := zZ_st zC h4 gD0_5 (fun S11 => some S11)
  exact ⟨D, eD, zD⟩
def zL16 : List zId := [(10, 0, 0), (21, 0, 0), (22, 0, 0), (5, 0, 0), (17, 0, 0), (18, 0, 0), (19, 0, 0), (6, 1, 0), (14, 1, 0), (15, 1, 0), (9, 1, 0), (20, 1, 0), (9, 0, 0), (20, 0, 0), (0, 1, 0), (0, 0, 0)]
theorem first9 : ∃ S1, fX9_init zS0 = some S1 ∧ zZ S1 zL16 := by
  have z0 : zZ zS0 [] := ⟨fun _ _ => rfl, fun _ _ => rfl, fun _ _ => rfl, fun _ _ => rfl, fun _ => rfl⟩
  obtain ⟨A, eA, zA⟩ := zZ_J (a := 0) z0 (by decide)
  obtain ⟨B, eB, zB⟩ := zZ_J (a := 1) zA (by decide)
  obtain ⟨C, eC, zC⟩ := zZ_8 (a := 0) zB (by decide) (by decide)
  obtain ⟨D, eD, zD⟩ := zZ_8 (a := 1) zC (by decide) (by decide)
  obtain ⟨E, eE, zE⟩ := zZ_5 (a := 1) (b := 0) zD (by decide) (by decide) (by decide)
  obtain ⟨F, eF, zF⟩ := zZ_4 zE (by decide) (by decide) (by decide) (by decide)
  unfold fX9_init
  rw [eA, cl_s, eB, cl_s, eC, cl_s, eD, cl_s, eE, cl_s, eF, cl_s]
  obtain ⟨G, eG, zG⟩ := zZ_st (c := (22, 0, 0)) (I := fun _ => 0) zF (by decide) (fun _ => rfl) (fun S28 => gd (zV S28 (21, 0, 0) = false) (st (nw S28 (21, 0, 0) (fun _ => 0) (fun _ => 0) (fun _ => none) (fun _ => 0)) fun S30 =>
gd (zV S30 (10, 0, 0) = false) (st (nw S30 (10, 0, 0) (fun k => ([(0 : Int32), (0 : Int32), (0 : Int32), (0 : Int32), (0 : Int32), (0 : Int32), (0 : Int32), (0 : Int32), (0 : Int32)] : List Int32).getD k 0) (fun _ => 0) (fun _ => none) (fun _ => 0)) fun S32 => some (S32))))
  rw [eG]
  obtain ⟨H, eH, zH⟩ := zZ_st (c := (21, 0, 0)) (I := fun _ => 0) zG (by decide) (fun _ => rfl) (fun S30 => gd (zV S30 (10, 0, 0) = false) (st (nw S30 (10, 0, 0) (fun k => ([(0 : Int32), (0 : Int32), (0 : Int32), (0 : Int32), (0 : Int32), (0 : Int32), (0 : Int32), (0 : Int32), (0 : Int32)] : List Int32).getD k 0) (fun _ => 0) (fun _ => none) (fun _ => 0)) fun S32 => some (S32)))
  rw [eH]
  obtain ⟨K, eK, zK⟩ := zZ_st (c := (10, 0, 0)) zH (by decide) gD0_9 (fun S32 => some S32)
  exact ⟨K, eK, zK⟩
def fiA (M : zMs) (k : Nat) : Nat → zMs
  | 0 => M
  | n + 1 => pM (fiA M k n) k n (-1)
theorem fiA_o (M : zMs) {k d : Nat} (hd : d ≠ k) : ∀ n, fiA M k n d = M d := by
  intro n
  induction n with
  | zero => rfl
  | succ n ih => exact (pMn hd _ _).trans ih
theorem fiA_a (M : zMs) (k : Nat) : ∀ n u, fiA M k n k u = if u < n then -1 else M k u := by
  intro n
  induction n with
  | zero => intro u; rw [if_neg (Nat.not_lt_zero _)]; rfl
  | succ n ih =>
    intro u
    show pM (fiA M k n) k n (-1) k u = _
    rw [pM_at]
    by_cases q : u = n
    · rw [if_pos ⟨rfl, q⟩, if_pos (by omega)]
    · rw [if_neg (fun r => q r.2), ih u]
      by_cases q2 : u < n
      · rw [if_pos q2, if_pos (by omega)]
      · rw [if_neg q2, if_neg (by omega)]
theorem c24I : (24 : Int32) = nI 24 := rfl
def bIn0  : (Int32 × zMs) → Option ((Int32 × zMs) ⊕ zMs) := fun (q2 : (Int32 × zMs)) =>
if (48 : Int32) ≤ q2.1 then
st (0 : Int32) fun x8 =>
lp (fun (q9 : (Int32 × zMs)) => (if (24 : Int32) ≤ q9.1 then
some (.inr (.inr (q9.2)))
else
gd (¬ (q9.1 < 0 ∨ 24 ≤ q9.1.toNatClampNeg)) (
st (pM q9.2 17 q9.1.toNatClampNeg (-1 : Int32)) fun M15 =>
st (q9.1 + (1 : Int32)) fun x16 =>
some (.inl (x16, M15))) : Option ((Int32 × zMs) ⊕ ((Int32 × zMs) ⊕ zMs)))) 40000 (x8, q2.2)
else
gd (¬ (q2.1 < 0 ∨ 48 ≤ q2.1.toNatClampNeg)) (
st (pM q2.2 16 q2.1.toNatClampNeg (-1 : Int32)) fun M17 =>
st (q2.1 + (1 : Int32)) fun x18 =>
some (.inl (x18, M17)))
def bIn1  : (Int32 × zMs) → Option ((Int32 × zMs) ⊕ ((Int32 × zMs) ⊕ zMs)) := fun (q9 : (Int32 × zMs)) =>
if (24 : Int32) ≤ q9.1 then
some (.inr (.inr (q9.2)))
else
gd (¬ (q9.1 < 0 ∨ 24 ≤ q9.1.toNatClampNeg)) (
st (pM q9.2 17 q9.1.toNatClampNeg (-1 : Int32)) fun M15 =>
st (q9.1 + (1 : Int32)) fun x16 =>
some (.inl (x16, M15)))
theorem first10 : fX10_init zM0 = some (fiA (fiA zM0 16 48) 17 24) := by
  unfold fX10_init
  rw [st_s]
  refine lp_up (body := bIn0) (fun k => (nI k, fiA zM0 16 k)) 48 (by omega) ?_ (fun k hk => ?_) ?_
  · show _ = (nI 0, zM0)
    rw [nI_0]
  · unfold bIn0
    simp (disch := omega) only [Nat.add_sub_cancel, nI_0, c2I, c3I, c4I, c6I, c8I, c9I, c10I, c15I, c16I, c20I, c30I, c40I, c48I, c60I, c100I, c120I, c159I, c160I, c239I, c240I, c256I, c300I, c318I, c320I, c720I, c840I, c960I, c2520I, c36000I, c1048576I, nI_1, nI_add, pk_mul, nI_pred1, nI_pm1, pk_sub, pk_div, nI_clamp, nI_lz, nI_leI, nI_ltI, nI_eq, nI_z, nI_lez, nI_gez, nI_gtz, nI_m, nI_m2, nI_lem, nI_ltm, nleF, leT, ltT, ltF, eqT, eqF, false_or, or_false, not_false_eq_true, not_true_eq_false, gd_T, st_q, cl_q, cl2_q, cxr_q, cxl_q, i10, if_true, if_false, Bool.false_eq_true]
    rfl
  · unfold bIn0
    dsimp only
    rw [if_pos (by decide), st_s]
    refine lp_up (body := bIn1) (fun k => (nI k, fiA (fiA zM0 16 48) 17 k)) 24 (by omega) ?_ (fun k hk => ?_) ?_
    · show _ = (nI 0, fiA zM0 16 48)
      rw [nI_0]
    · unfold bIn1
      simp (disch := omega) only [Nat.add_sub_cancel, nI_0, c2I, c3I, c4I, c6I, c8I, c9I, c10I, c15I, c16I, c20I, c30I, c40I, c48I, c60I, c100I, c120I, c159I, c160I, c239I, c240I, c256I, c300I, c318I, c320I, c720I, c840I, c960I, c2520I, c36000I, c1048576I, nI_1, nI_add, pk_mul, nI_pred1, nI_pm1, pk_sub, pk_div, nI_clamp, nI_lz, nI_leI, nI_ltI, nI_eq, nI_z, nI_lez, nI_gez, nI_gtz, nI_m, nI_m2, nI_lem, nI_ltm, nleF, leT, ltT, ltF, eqT, eqF, false_or, or_false, not_false_eq_true, not_true_eq_false, gd_T, st_q, cl_q, cl2_q, cxr_q, cxl_q, i10, if_true, if_false, Bool.false_eq_true, c24I]
      rfl
    · unfold bIn1
      dsimp only
      rw [if_pos (by decide)]
theorem first_tie (hS : zZ S zL16) : Tie S (fiA (fiA zM0 16 48) 17 24) := by
  have m (k i : Nat) (h1 : k ≠ 16) (h2 : k ≠ 17) : fiA (fiA zM0 16 48) 17 24 k i = 0 := by rw [fiA_o _ h2 24, fiA_o _ h1 48]; rfl
  have m16 (i : Nat) (hi : i < 48) : fiA (fiA zM0 16 48) 17 24 16 i = -1 := by rw [fiA_o _ (by decide) 24, fiA_a _ _ 48, if_pos hi]
  have m17 (i : Nat) (hi : i < 24) : fiA (fiA zM0 16 48) 17 24 17 i = -1 := by rw [fiA_a _ _ 24, if_pos hi]
  generalize fiA (fiA zM0 16 48) 17 24 = M at *
  have c0 : (0 : Int32).toNatClampNeg = 0 := by decide
  have eT : nT M = 0 := by unfold nT; rw [m 1 0 (by decide) (by decide), c0]
  have eG : nG M = 0 := by unfold nG; rw [m 24 0 (by decide) (by decide), c0]
  have eS : nS M = 0 := by unfold nS; rw [m 22 0 (by decide) (by decide), c0]
  have eB : ∀ t, nB M t = 0 := fun t => by unfold nB; rw [m 8 t (by decide) (by decide), c0]
  have r0 : ∀ {k i b : Nat}, k ≠ 16 → k ≠ 17 → rng 0 b (M k i) := fun {k i b} h1 h2 => ⟨0, Nat.le_refl _, Nat.zero_le _, by rw [m k i h1 h2, nI_0]⟩
  obtain ⟨hI, hL, hQ, hN, hV⟩ := hS
  have v : ∀ d : zId, ¬ d ∈ zL16 → zV S d = false := fun d hd => (hV d).trans (decide_eq_false hd)
  have ls : ∀ n, zLs S n 0 := fun n => ⟨by rw [hI, nI_0], fun g _ => v _ (by unfold zL16; simp only [List.mem_cons, Prod.mk.injEq, List.not_mem_nil, or_false]; omega), fun _ => rfl, fun q => absurd (hN _ _) q⟩
  refine ⟨⟨r0 (by decide) (by decide), r0 (by decide) (by decide), r0 (by decide) (by decide), fun t ht => ⟨r0 (by decide) (by decide), fun _ => ⟨m 8 t (by decide) (by decide), m 4 t (by decide) (by decide), m 5 t (by decide) (by decide), m 6 t (by decide) (by decide)⟩⟩, fun t ht => by rw [eT] at ht; omega,
    fun t b ht hb => ⟨fun q => by rw [eB] at q; omega, fun _ => ⟨m16 _ (by omega), m 15 _ (by decide) (by decide)⟩⟩, fun t k ht hk => ⟨r0 (by decide) (by decide), fun _ => m 14 _ (by decide) (by decide)⟩, fun t j ht hj => ⟨Or.inl (m17 _ (by omega)), fun _ => m17 _ (by omega)⟩,
    fun g hg => ⟨fun q => by rw [eG] at q; omega, fun _ => ⟨m 27 g (by decide) (by decide), m 34 g (by decide) (by decide)⟩⟩, fun _ _ => r0 (by decide) (by decide), fun _ _ => r0 (by decide) (by decide), fun i _ => Or.inl (m 23 i (by decide) (by decide))⟩, ?_, ?_, fun g hg => by rw [eG] at hg; omega⟩
  · have fT : ∀ {i : Nat}, ¬ i < nT M := fun {i} q => by rw [eT] at q; omega
    have fG : ∀ {i : Nat}, ¬ i < nG M := fun {i} q => by rw [eG] at q; omega
    have old : ∀ k i, k ≠ 16 → k ≠ 17 → vS S k i = 0 → vS S k i = M k i := fun k i h1 h2 q => q.trans (m k i h1 h2).symm
    intro k i hd
    match k, hd with
    | 0, hd => exact hd.elim
    | 1, hd => exact old 1 i (by decide) (by decide) (hI (0, 0, 0) 2)
    | 2, hd => exact absurd hd fT
    | 3, hd => exact absurd hd fT
    | 4, hd => exact absurd hd fT
    | 5, hd => exact absurd hd fT
    | 6, hd => exact absurd hd fT
    | 7, hd => exact absurd hd fT
    | 8, hd => exact absurd hd fT
    | 9, hd => exact absurd hd.1 fT
    | 10, hd => exact absurd hd.1 fT
    | 11, hd => exact absurd hd.1 fT
    | 12, hd => exact absurd hd.1 fT
    | 13, hd => exact absurd hd.1 fT
    | 14, hd => exact absurd hd fT
    | 15, hd => exact absurd hd.1 fT
    | 16, hd => exact absurd hd.1 fT
    | 17, hd => exact absurd hd fT
    | 18, hd => exact absurd hd.1 fT
    | 19, hd => exact absurd hd.1 fT
    | 20, hd => exact absurd hd.1 fT
    | 21, hd => exact absurd hd.1 fT
    | 22, hd => exact old 22 i (by decide) (by decide) (hI (10, 0, 0) 8)
    | 23, hd => exact old 23 i (by decide) (by decide) (hI (21, 0, 0) i)
    | 24, hd => exact old 24 i (by decide) (by decide) (hI (0, 1, 0) 2)
    | 25, hd => exact absurd hd fG
    | 26, hd => exact absurd hd fG
    | 27, hd => exact absurd hd fG
    | 28, hd => exact absurd hd fG
    | 29, hd => exact absurd hd fG
    | 30, hd => exact absurd hd.1 fG
    | 31, hd => exact absurd hd.1 fG
    | 32, hd => exact absurd hd.1 fG
    | 33, hd => exact absurd hd.1 fG
    | 34, hd => exact absurd hd fG
    | 35, hd => exact absurd hd.1 fG
    | 36, hd => exact absurd hd.1 fG
    | 37, hd => exact hd.elim
    | 38, hd => exact hd.elim
    | 39, hd => exact hd.elim
    | 40, hd => exact hd.elim
    | 41, hd => exact hd.elim
    | 42, hd => exact hd.elim
    | 43, hd => exact hd.elim
    | 44, hd => exact hd.elim
    | 45, hd => exact hd.elim
    | 46, hd => exact hd.elim
    | 47, hd => exact hd.elim
    | 48, hd => exact hd.elim
    | 49, hd => exact old 49 i (by decide) (by decide) (hI (9, i, 0) 1)
    | 50, hd => exact old 50 i (by decide) (by decide) (hI (20, i / 2, 0) (i % 2))
    | n + 51, hd => exact hd.elim
  · have nm : ∀ {d : zId}, ¬ d ∈ zL16 → zV S d = false := fun {d} hd => v d hd
    refine ⟨(hV _).trans (decide_eq_true (by decide)), nm (by decide), by rw [eT]; exact ls 0, by rw [eG]; exact ls 1, fun t ht => by rw [eT] at ht; omega, fun t _ => ⟨?_, ?_, ?_, ?_, ?_, fun g => ?_⟩, fun t b _ _ => ?_, fun g _ => ⟨?_, ?_, ?_, ?_, ?_, ?_, ?_, ?_⟩, fun n _ => ?_, fun t j n ht => by rw [eT] at ht; omega, fun g j n hg => by rw [eG] at hg; omega⟩ <;>
    exact nm (by unfold zL16; simp only [List.mem_cons, Prod.mk.injEq, List.not_mem_nil, or_false]; omega)
end PFS
