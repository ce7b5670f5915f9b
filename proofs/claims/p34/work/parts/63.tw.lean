/-! WHAT THE WRAPPERS ANSWER, read off the rows, and the rows behind them -/
def exW : List Nat → Int32 → Int32
  | [], _ => 0
  | a :: r, w => if w = 1 then exC a else exW r (w - 1)
def an (nums : List Nat) (r : Option (Int32 × zMs)) : Int32 := match r with
  | none => 0
  | some q => if q.2 0 0 = 0 then q.1 else exW nums (q.2 0 0)
def ab (nums : List Nat) (r : Option (Int32 × zMs)) : Int32 := match r with
  | none => 0
  | some q => if q.2 0 0 = 0 then (if q.1 = 0 then 0 else 1) else exW nums (q.2 0 0)
def al (r : Option (Int64 × zMs)) : Int64 := match r with
  | none => 0
  | some q => if q.2 0 0 = 0 then q.1 else -2000000001
def nx (M : zMs) (r : Option (Int32 × zMs)) : zMs := match r with
  | none => M
  | some q => if q.2 0 0 = 0 then q.2 else M
theorem an_k {nums : List Nat} {b : Int32} {M1 : zMs} (h : M1 0 0 = 0) : an nums (some (b, M1)) = b := if_pos h
theorem an_w {nums : List Nat} {b w : Int32} {M1 : zMs} (h : M1 0 0 = w) (hw : w ≠ 0) : an nums (some (b, M1)) = exW nums w := by subst h; exact if_neg hw
theorem ab_k {nums : List Nat} {b : Int32} {M1 : zMs} (h : M1 0 0 = 0) : ab nums (some (b, M1)) = if b = 0 then 0 else 1 := if_pos h
theorem ab_w {nums : List Nat} {b w : Int32} {M1 : zMs} (h : M1 0 0 = w) (hw : w ≠ 0) : ab nums (some (b, M1)) = exW nums w := by subst h; exact if_neg hw
theorem al_k {b : Int64} {M1 : zMs} (h : M1 0 0 = 0) : al (some (b, M1)) = b := if_pos h
theorem al_w {b : Int64} {w : Int32} {M1 : zMs} (h : M1 0 0 = w) (hw : w ≠ 0) : al (some (b, M1)) = -2000000001 := by subst h; exact if_neg hw
theorem nx_k {M M1 : zMs} {b : Int32} (h : M1 0 0 = 0) : nx M (some (b, M1)) = M1 := if_pos h
theorem nx_w {M M1 : zMs} {b : Int32} (h : M1 0 0 ≠ 0) : nx M (some (b, M1)) = M := if_neg h
theorem i64_inj {x y : Int32} (h : x.toInt64 = y.toInt64) : x = y := Int32.toInt_inj.mp (by rw [← Int32.toInt_toInt64, ← Int32.toInt_toInt64, h])
theorem b64_inj {x y : Int32} (h : (if x = 0 then (0 : Int64) else 1) = if y = 0 then (0 : Int64) else 1) : (if x = 0 then (0 : Int32) else 1) = if y = 0 then (0 : Int32) else 1 := by
  by_cases hx : x = 0
  · by_cases hy : y = 0
    · rw [if_pos hx, if_pos hy]
    · rw [if_pos hx, if_neg hy] at h; exact absurd h (by decide)
  · by_cases hy : y = 0
    · rw [if_neg hx, if_pos hy] at h; exact absurd h (by decide)
    · rw [if_neg hx, if_neg hy]
theorem kx_1 {n : Nat} (h : n ∈ [1]) : kL [1] n ≠ 0 ∧ exW [1] (kL [1] n) = exC n := by
  simp only [List.mem_cons, List.not_mem_nil, or_false] at h
  subst h; exact ⟨by decide, by decide⟩
theorem kx_2 {n : Nat} (h : n ∈ [2]) : kL [2] n ≠ 0 ∧ exW [2] (kL [2] n) = exC n := by
  simp only [List.mem_cons, List.not_mem_nil, or_false] at h
  subst h; exact ⟨by decide, by decide⟩
theorem kx_12 {n : Nat} (h : n ∈ [1, 2]) : kL [1, 2] n ≠ 0 ∧ exW [1, 2] (kL [1, 2] n) = exC n := by
  simp only [List.mem_cons, List.not_mem_nil, or_false] at h
  rcases h with rfl | rfl <;> exact ⟨by decide, by decide⟩
theorem kx_13 {n : Nat} (h : n ∈ [1, 3]) : kL [1, 3] n ≠ 0 ∧ exW [1, 3] (kL [1, 3] n) = exC n := by
  simp only [List.mem_cons, List.not_mem_nil, or_false] at h
  rcases h with rfl | rfl <;> exact ⟨by decide, by decide⟩
theorem kx_23 {n : Nat} (h : n ∈ [2, 3]) : kL [2, 3] n ≠ 0 ∧ exW [2, 3] (kL [2, 3] n) = exC n := by
  simp only [List.mem_cons, List.not_mem_nil, or_false] at h
  rcases h with rfl | rfl <;> exact ⟨by decide, by decide⟩
theorem kx_123 {n : Nat} (h : n ∈ [1, 2, 3]) : kL [1, 2, 3] n ≠ 0 ∧ exW [1, 2, 3] (kL [1, 2, 3] n) = exC n := by
  simp only [List.mem_cons, List.not_mem_nil, or_false] at h
  rcases h with rfl | rfl | rfl <;> exact ⟨by decide, by decide⟩
theorem aX_tables (l : Launch) (Γ : zG) (a : Nat) (M : zMs) (X : va_W) : Met l yX9_tables wsX9_tables rmX9_tables (GP Γ (TW Γ a M X) [.ref a]) (GQ Γ (TW Γ a M X) (some (.int (M 1 0)))) 0 0 (zA Γ) := by
  refine met_ex (fun ar s hP => ?_)
  obtain ⟨hv, ⟨lo, S, ha, hT, hW⟩, hKK, -⟩ := hP
  obtain ⟨n, M1, h9, h10, -⟩ := ok_tables S M hT
  have e : M 1 0 = n := by cases h10; rfl
  refine ⟨_, _, tX9_tables l Γ lo S X (zsteps_tie.1 _ _ hT) h9, ⟨by rw [ha]; exact hv, hW, hKK⟩, fun o t hq => ?_⟩
  obtain ⟨ho, hW1, -, hF⟩ := hq
  exact ⟨by rw [e]; exact ho, ⟨lo, S, ha, hT, hW1⟩, hF⟩
theorem aX_games (l : Launch) (Γ : zG) (a : Nat) (M : zMs) (X : va_W) : Met l yX9_games wsX9_games rmX9_games (GP Γ (TW Γ a M X) [.ref a]) (GQ Γ (TW Γ a M X) (some (.int (M 24 0)))) 0 0 (zA Γ) := by
  refine met_ex (fun ar s hP => ?_)
  obtain ⟨hv, ⟨lo, S, ha, hT, hW⟩, hKK, -⟩ := hP
  obtain ⟨n, M1, h9, h10, -⟩ := ok_games S M hT
  have e : M 24 0 = n := by cases h10; rfl
  refine ⟨_, _, tX9_games l Γ lo S X (zsteps_tie.1 _ _ hT) h9, ⟨by rw [ha]; exact hv, hW, hKK⟩, fun o t hq => ?_⟩
  obtain ⟨ho, hW1, -, hF⟩ := hq
  exact ⟨by rw [e]; exact ho, ⟨lo, S, ha, hT, hW1⟩, hF⟩

def A_tables (M : zMs) (i_1 : Int32) (i_2 : Int32) : Int32 := an [2, 3] (fX10_addTable M i_1 i_2)
def N_tables (M : zMs) (i_1 : Int32) (i_2 : Int32) : zMs := nx M (fX10_addTable M i_1 i_2)
theorem aL_tables (l : Launch) (hl0 : l.stackTraces = false) (Γ : zG) (a : Nat) (M : zMs) (X : va_W) (i_1 : Int32) (i_2 : Int32) : Met l yL_tables wsL_tables rmL_tables (GP Γ (TW Γ a M X) [.ref a, .int i_1, .int i_2]) (GQ Γ (TW Γ a (N_tables M i_1 i_2) X) (some (.int (A_tables M i_1 i_2)))) 6 89 (zA Γ) := by
  refine tw_met (As := [.int i_1, .int i_2]) (fun lo S hT => ?_)
  have v_z := zsteps_tie.1 _ _ hT
  rcases zsteps_tie.2.1 S M i_1 i_2 hT with ⟨y, r, M1, h9, h10, h0, hv, hT1⟩ | ⟨ee, r, M1, h9, h10, hn, h0, hT1⟩
  · dsimp only at hv hT1
    have eA : A_tables M i_1 i_2 = y.1 := by
      unfold A_tables
      rw [h10, an_k h0]
      exact (i64_inj hv).symm
    rw [eA]
    have eN : N_tables M i_1 i_2 = M1 := by
      unfold N_tables
      rw [h10, nx_k h0]
    rw [eN]
    exact ⟨y.2, y.2, hT1, (fun _ _ h => h), tL_tables l Γ lo S X v_z h9⟩
  · have hk := kx_23 hn
    have eA : A_tables M i_1 i_2 = exC ee.1 := by
      unfold A_tables
      rw [h10, an_w h0 hk.1]
      exact hk.2
    rw [eA]
    have eN : N_tables M i_1 i_2 = M := by
      unfold N_tables
      rw [h10, nx_w (by rw [h0]; exact hk.1)]
    rw [eN]
    exact ⟨ee.2, ee.2, (tie_hid hT1 (eqH_r _) (eqM_s (wr_addTable hT i_1 i_2 _ _ h10 (by rw [h0]; exact hk.1)))), (fun _ _ h => h), uL_tables l hl0 Γ lo S X v_z h9 (by simpa using hn)⟩
def A_bumpers (M : zMs) (i_1 : Int32) (i_2 : Int32) (i_3 : Int32) (i_4 : Int32) (i_5 : Int32) : Int32 := an [1, 2, 3] (fX10_addBumper M i_1 i_2 i_3 i_4 i_5)
def N_bumpers (M : zMs) (i_1 : Int32) (i_2 : Int32) (i_3 : Int32) (i_4 : Int32) (i_5 : Int32) : zMs := nx M (fX10_addBumper M i_1 i_2 i_3 i_4 i_5)
theorem aL_bumpers (l : Launch) (hl0 : l.stackTraces = false) (Γ : zG) (a : Nat) (M : zMs) (X : va_W) (i_1 : Int32) (i_2 : Int32) (i_3 : Int32) (i_4 : Int32) (i_5 : Int32) : Met l yL_bumpers wsL_bumpers rmL_bumpers (GP Γ (TW Γ a M X) [.ref a, .int i_1, .int i_2, .int i_3, .int i_4, .int i_5]) (GQ Γ (TW Γ a (N_bumpers M i_1 i_2 i_3 i_4 i_5) X) (some (.int (A_bumpers M i_1 i_2 i_3 i_4 i_5)))) 2 71 (zA Γ) := by
  refine tw_met (As := [.int i_1, .int i_2, .int i_3, .int i_4, .int i_5]) (fun lo S hT => ?_)
  have v_z := zsteps_tie.1 _ _ hT
  rcases zsteps_tie.2.2.1 S M i_1 i_2 i_3 i_4 i_5 hT with ⟨y, r, M1, h9, h10, h0, hv, hT1⟩ | ⟨ee, r, M1, h9, h10, hn, h0, hT1⟩
  · dsimp only at hv hT1
    have eA : A_bumpers M i_1 i_2 i_3 i_4 i_5 = y.1 := by
      unfold A_bumpers
      rw [h10, an_k h0]
      exact (i64_inj hv).symm
    rw [eA]
    have eN : N_bumpers M i_1 i_2 i_3 i_4 i_5 = M1 := by
      unfold N_bumpers
      rw [h10, nx_k h0]
    rw [eN]
    exact ⟨y.2, y.2, hT1, (fun _ _ h => h), tL_bumpers l Γ lo S X v_z h9⟩
  · have hk := kx_123 hn
    have eA : A_bumpers M i_1 i_2 i_3 i_4 i_5 = exC ee.1 := by
      unfold A_bumpers
      rw [h10, an_w h0 hk.1]
      exact hk.2
    rw [eA]
    have eN : N_bumpers M i_1 i_2 i_3 i_4 i_5 = M := by
      unfold N_bumpers
      rw [h10, nx_w (by rw [h0]; exact hk.1)]
    rw [eN]
    exact ⟨ee.2, ee.2, (tie_hid hT1 (eqH_r _) (eqM_s (wr_addBumper hT i_1 i_2 i_3 i_4 i_5 _ _ h10 (by rw [h0]; exact hk.1)))), (fun _ _ h => h), uL_bumpers l hl0 Γ lo S X v_z h9 (by simpa using hn)⟩
def A_points (M : zMs) (i_1 : Int32) (i_2 : Int32) (i_3 : Int32) : Int32 := an [1, 2, 3] (fX10_setPoints M i_1 i_2 i_3)
def N_points (M : zMs) (i_1 : Int32) (i_2 : Int32) (i_3 : Int32) : zMs := nx M (fX10_setPoints M i_1 i_2 i_3)
theorem aL_points (l : Launch) (hl0 : l.stackTraces = false) (Γ : zG) (a : Nat) (M : zMs) (X : va_W) (i_1 : Int32) (i_2 : Int32) (i_3 : Int32) : Met l yL_points wsL_points rmL_points (GP Γ (TW Γ a M X) [.ref a, .int i_1, .int i_2, .int i_3]) (GQ Γ (TW Γ a (N_points M i_1 i_2 i_3) X) (some (.int (A_points M i_1 i_2 i_3)))) 1 6 (zA Γ) := by
  refine tw_met (As := [.int i_1, .int i_2, .int i_3]) (fun lo S hT => ?_)
  have v_z := zsteps_tie.1 _ _ hT
  rcases zsteps_tie.2.2.2.1 S M i_1 i_2 i_3 hT with ⟨y, r, M1, h9, h10, h0, hv, hT1⟩ | ⟨ee, r, M1, h9, h10, hn, h0, hT1⟩
  · dsimp only at hv hT1
    have eA : A_points M i_1 i_2 i_3 = y.1 := by
      unfold A_points
      rw [h10, an_k h0]
      exact (i64_inj hv).symm
    rw [eA]
    have eN : N_points M i_1 i_2 i_3 = M1 := by
      unfold N_points
      rw [h10, nx_k h0]
    rw [eN]
    exact ⟨y.2, y.2, hT1, (fun _ _ h => h), tL_points l Γ lo S X v_z h9⟩
  · have hk := kx_123 hn
    have eA : A_points M i_1 i_2 i_3 = exC ee.1 := by
      unfold A_points
      rw [h10, an_w h0 hk.1]
      exact hk.2
    rw [eA]
    have eN : N_points M i_1 i_2 i_3 = M := by
      unfold N_points
      rw [h10, nx_w (by rw [h0]; exact hk.1)]
    rw [eN]
    exact ⟨ee.2, ee.2, (tie_hid hT1 (eqH_r _) (eqM_s (wr_setPoints hT i_1 i_2 i_3 _ _ h10 (by rw [h0]; exact hk.1)))), (fun _ _ h => h), uL_points l hl0 Γ lo S X v_z h9 (by simpa using hn)⟩
def A_modes (M : zMs) (i_1 : Int32) (i_2 : Int32) (i_3 : Int32) (i_4 : Int32) (i_5 : Int32) : Int32 := ab [1, 2, 3] (fX10_setMode M i_1 i_2 i_3 i_4 i_5)
def N_modes (M : zMs) (i_1 : Int32) (i_2 : Int32) (i_3 : Int32) (i_4 : Int32) (i_5 : Int32) : zMs := nx M (fX10_setMode M i_1 i_2 i_3 i_4 i_5)
theorem aL_modes (l : Launch) (hl0 : l.stackTraces = false) (Γ : zG) (a : Nat) (M : zMs) (X : va_W) (i_1 : Int32) (i_2 : Int32) (i_3 : Int32) (i_4 : Int32) (i_5 : Int32) : Met l yL_modes wsL_modes rmL_modes (GP Γ (TW Γ a M X) [.ref a, .int i_1, .int i_2, .int i_3, .int i_4, .int i_5]) (GQ Γ (TW Γ a (N_modes M i_1 i_2 i_3 i_4 i_5) X) (some (.int (A_modes M i_1 i_2 i_3 i_4 i_5)))) 1 6 (zA Γ) := by
  refine tw_met (As := [.int i_1, .int i_2, .int i_3, .int i_4, .int i_5]) (fun lo S hT => ?_)
  have v_z := zsteps_tie.1 _ _ hT
  rcases zsteps_tie.2.2.2.2.1 S M i_1 i_2 i_3 i_4 i_5 hT with ⟨y, r, M1, h9, h10, h0, hv, hT1⟩ | ⟨ee, r, M1, h9, h10, hn, h0, hT1⟩
  · dsimp only at hv hT1
    have eA : A_modes M i_1 i_2 i_3 i_4 i_5 = (if y.1 = 0 then 0 else 1) := by
      unfold A_modes
      rw [h10, ab_k h0]
      exact (b64_inj hv).symm
    rw [eA]
    have eN : N_modes M i_1 i_2 i_3 i_4 i_5 = M1 := by
      unfold N_modes
      rw [h10, nx_k h0]
    rw [eN]
    exact ⟨y.2, (pN y.2 (10, 0, 0) 0 (zN y.2 (10, 0, 0) 0 + 1)), hT1, (fun lo1 H h => wd_cnt h _), tL_modes l Γ lo S X v_z h9⟩
  · have hk := kx_123 hn
    have eA : A_modes M i_1 i_2 i_3 i_4 i_5 = exC ee.1 := by
      unfold A_modes
      rw [h10, ab_w h0 hk.1]
      exact hk.2
    rw [eA]
    have eN : N_modes M i_1 i_2 i_3 i_4 i_5 = M := by
      unfold N_modes
      rw [h10, nx_w (by rw [h0]; exact hk.1)]
    rw [eN]
    exact ⟨ee.2, ee.2, (tie_hid hT1 (eqH_r _) (eqM_s (wr_setMode hT i_1 i_2 i_3 i_4 i_5 _ _ h10 (by rw [h0]; exact hk.1)))), (fun _ _ h => h), uL_modes l hl0 Γ lo S X v_z h9 (by simpa using hn)⟩
def A_stick (M : zMs) (i_1 : Int32) (i_2 : Int32) : Int32 := an [1, 3] (fX10_stick M i_1 i_2)
def N_stick (M : zMs) (i_1 : Int32) (i_2 : Int32) : zMs := nx M (fX10_stick M i_1 i_2)
theorem aL_stick (l : Launch) (hl0 : l.stackTraces = false) (Γ : zG) (a : Nat) (M : zMs) (X : va_W) (i_1 : Int32) (i_2 : Int32) : Met l yL_stick wsL_stick rmL_stick (GP Γ (TW Γ a M X) [.ref a, .int i_1, .int i_2]) (GQ Γ (TW Γ a (N_stick M i_1 i_2) X) (some (.int (A_stick M i_1 i_2)))) 1 6 (zA Γ) := by
  refine tw_met (As := [.int i_1, .int i_2]) (fun lo S hT => ?_)
  have v_z := zsteps_tie.1 _ _ hT
  rcases zsteps_tie.2.2.2.2.2.2.1 S M i_1 i_2 hT with ⟨y, r, M1, h9, h10, h0, hv, hT1⟩ | ⟨ee, r, M1, h9, h10, hn, h0, hT1⟩
  · dsimp only at hv hT1
    have eA : A_stick M i_1 i_2 = y.1 := by
      unfold A_stick
      rw [h10, an_k h0]
      exact (i64_inj hv).symm
    rw [eA]
    have eN : N_stick M i_1 i_2 = M1 := by
      unfold N_stick
      rw [h10, nx_k h0]
    rw [eN]
    exact ⟨y.2, y.2, hT1, (fun _ _ h => h), tL_stick l Γ lo S X v_z h9⟩
  · have hk := kx_13 hn
    have eA : A_stick M i_1 i_2 = exC ee.1 := by
      unfold A_stick
      rw [h10, an_w h0 hk.1]
      exact hk.2
    rw [eA]
    have eN : N_stick M i_1 i_2 = M := by
      unfold N_stick
      rw [h10, nx_w (by rw [h0]; exact hk.1)]
    rw [eN]
    exact ⟨ee.2, ee.2, (tie_hid hT1 (eqH_r _) (eqM_s (wr_stick hT i_1 i_2 _ _ h10 (by rw [h0]; exact hk.1)))), (fun _ _ h => h), uL_stick l hl0 Γ lo S X v_z h9 (by simpa using hn)⟩
def A_sticks (M : zMs) (i_1 : Int32) (i_2 : Int32) : Int32 := ab [1] (fX10_sticks M i_1 i_2)
theorem aL_sticks (l : Launch) (hl0 : l.stackTraces = false) (Γ : zG) (a : Nat) (M : zMs) (X : va_W) (i_1 : Int32) (i_2 : Int32) : Met l yL_sticks wsL_sticks rmL_sticks (GP Γ (TW Γ a M X) [.ref a, .int i_1, .int i_2]) (GQ Γ (TW Γ a M X) (some (.int (A_sticks M i_1 i_2)))) 1 6 (zA Γ) := by
  refine tw_met (As := [.int i_1, .int i_2]) (fun lo S hT => ?_)
  have v_z := zsteps_tie.1 _ _ hT
  rcases zsteps_tie.2.2.2.2.2.2.2.1 S M i_1 i_2 hT with ⟨y, r, M1, h9, h10, h0, hv, hT1⟩ | ⟨ee, r, M1, h9, h10, hn, h0, hT1⟩
  · dsimp only at hv hT1
    have eA : A_sticks M i_1 i_2 = (if y = 0 then 0 else 1) := by
      unfold A_sticks
      rw [h10, ab_k h0]
      exact (b64_inj hv).symm
    rw [eA]
    exact ⟨S, S, (tie_hid hT1 (eqH_r _) (eqM_s (rd_sticks hT i_1 i_2 _ _ h10))), (fun _ _ h => h), tL_sticks l Γ lo S X v_z h9⟩
  · have hk := kx_1 hn
    have eA : A_sticks M i_1 i_2 = exC ee.1 := by
      unfold A_sticks
      rw [h10, ab_w h0 hk.1]
      exact hk.2
    rw [eA]
    exact ⟨ee.2, ee.2, (tie_hid hT1 (eqH_r _) (eqM_s (rd_sticks hT i_1 i_2 _ _ h10))), (fun _ _ h => h), uL_sticks l hl0 Γ lo S X v_z h9 (by simpa using hn)⟩
def A_wear (M : zMs) (i_1 : Int32) (i_2 : Int32) : Int32 := an [1] (fX10_wear M i_1 i_2)
theorem aL_wear (l : Launch) (hl0 : l.stackTraces = false) (Γ : zG) (a : Nat) (M : zMs) (X : va_W) (i_1 : Int32) (i_2 : Int32) : Met l yL_wear wsL_wear rmL_wear (GP Γ (TW Γ a M X) [.ref a, .int i_1, .int i_2]) (GQ Γ (TW Γ a M X) (some (.int (A_wear M i_1 i_2)))) 1 6 (zA Γ) := by
  refine tw_met (As := [.int i_1, .int i_2]) (fun lo S hT => ?_)
  have v_z := zsteps_tie.1 _ _ hT
  rcases zsteps_tie.2.2.2.2.2.2.2.2.1 S M i_1 i_2 hT with ⟨y, r, M1, h9, h10, h0, hv, hT1⟩ | ⟨ee, r, M1, h9, h10, hn, h0, hT1⟩
  · dsimp only at hv hT1
    have eA : A_wear M i_1 i_2 = y := by
      unfold A_wear
      rw [h10, an_k h0]
      exact (i64_inj hv).symm
    rw [eA]
    exact ⟨S, S, (tie_hid hT1 (eqH_r _) (eqM_s (rd_wear hT i_1 i_2 _ _ h10))), (fun _ _ h => h), tL_wear l Γ lo S X v_z h9⟩
  · have hk := kx_1 hn
    have eA : A_wear M i_1 i_2 = exC ee.1 := by
      unfold A_wear
      rw [h10, an_w h0 hk.1]
      exact hk.2
    rw [eA]
    exact ⟨ee.2, ee.2, (tie_hid hT1 (eqH_r _) (eqM_s (rd_wear hT i_1 i_2 _ _ h10))), (fun _ _ h => h), uL_wear l hl0 Γ lo S X v_z h9 (by simpa using hn)⟩
def A_coin (M : zMs) (i_1 : Int32) : Int32 := an [1, 3] (fX10_coin M i_1)
def N_coin (M : zMs) (i_1 : Int32) : zMs := nx M (fX10_coin M i_1)
theorem aL_coin (l : Launch) (hl0 : l.stackTraces = false) (Γ : zG) (a : Nat) (M : zMs) (X : va_W) (i_1 : Int32) : Met l yL_coin wsL_coin rmL_coin (GP Γ (TW Γ a M X) [.ref a, .int i_1]) (GQ Γ (TW Γ a (N_coin M i_1) X) (some (.int (A_coin M i_1)))) 9 2614 (zA Γ) := by
  refine tw_met (As := [.int i_1]) (fun lo S hT => ?_)
  have v_z := zsteps_tie.1 _ _ hT
  rcases zsteps_tie.2.2.2.2.2.2.2.2.2.1 S M i_1 hT with ⟨y, r, M1, h9, h10, h0, hv, hT1⟩ | ⟨ee, r, M1, h9, h10, hn, h0, hT1⟩
  · dsimp only at hv hT1
    have eA : A_coin M i_1 = y.1 := by
      unfold A_coin
      rw [h10, an_k h0]
      exact (i64_inj hv).symm
    rw [eA]
    have eN : N_coin M i_1 = M1 := by
      unfold N_coin
      rw [h10, nx_k h0]
    rw [eN]
    exact ⟨y.2, y.2, hT1, (fun _ _ h => h), tL_coin l Γ lo S X v_z h9⟩
  · have hk := kx_13 hn
    have eA : A_coin M i_1 = exC ee.1 := by
      unfold A_coin
      rw [h10, an_w h0 hk.1]
      exact hk.2
    rw [eA]
    have eN : N_coin M i_1 = M := by
      unfold N_coin
      rw [h10, nx_w (by rw [h0]; exact hk.1)]
    rw [eN]
    exact ⟨ee.2, ee.2, (tie_hid hT1 (eqH_r _) (eqM_s (wr_coin hT i_1 _ _ h10 (by rw [h0]; exact hk.1)))), (fun _ _ h => h), uL_coin l hl0 Γ lo S X v_z h9 (by simpa using hn)⟩
def A_shoot (M : zMs) (i_1 : Int32) (i_2 : Int32) (i_3 : Int32) (i_4 : Int32) : Int32 := an [1, 2, 3] (fX10_shoot M i_1 i_2 i_3 i_4)
def N_shoot (M : zMs) (i_1 : Int32) (i_2 : Int32) (i_3 : Int32) (i_4 : Int32) : zMs := nx M (fX10_shoot M i_1 i_2 i_3 i_4)
theorem aL_shoot (l : Launch) (hl0 : l.stackTraces = false) (Γ : zG) (a : Nat) (M : zMs) (X : va_W) (i_1 : Int32) (i_2 : Int32) (i_3 : Int32) (i_4 : Int32) : Met l yL_shoot wsL_shoot rmL_shoot (GP Γ (TW Γ a M X) [.ref a, .int i_1, .int i_2, .int i_3, .int i_4]) (GQ Γ (TW Γ a (N_shoot M i_1 i_2 i_3 i_4) X) (some (.int (A_shoot M i_1 i_2 i_3 i_4)))) 1 6 (zA Γ) := by
  refine tw_met (As := [.int i_1, .int i_2, .int i_3, .int i_4]) (fun lo S hT => ?_)
  have v_z := zsteps_tie.1 _ _ hT
  rcases zsteps_tie.2.2.2.2.2.2.2.2.2.2.1 S M i_1 i_2 i_3 i_4 hT with ⟨y, r, M1, h9, h10, h0, hv, hT1⟩ | ⟨ee, r, M1, h9, h10, hn, h0, hT1⟩
  · dsimp only at hv hT1
    have eA : A_shoot M i_1 i_2 i_3 i_4 = y.1 := by
      unfold A_shoot
      rw [h10, an_k h0]
      exact (i64_inj hv).symm
    rw [eA]
    have eN : N_shoot M i_1 i_2 i_3 i_4 = M1 := by
      unfold N_shoot
      rw [h10, nx_k h0]
    rw [eN]
    exact ⟨y.2, (pV y.2 (1, 0, 0) false), hT1, (fun lo1 H h => wd_drop h (1, 0, 0) (fun d _ => tg_ball _ d)), tL_shoot l Γ lo S X v_z h9⟩
  · have hk := kx_123 hn
    have eA : A_shoot M i_1 i_2 i_3 i_4 = exC ee.1 := by
      unfold A_shoot
      rw [h10, an_w h0 hk.1]
      exact hk.2
    rw [eA]
    have eN : N_shoot M i_1 i_2 i_3 i_4 = M := by
      unfold N_shoot
      rw [h10, nx_w (by rw [h0]; exact hk.1)]
    rw [eN]
    exact ⟨ee.2, ee.2, (tie_hid hT1 (eqH_r _) (eqM_s (wr_shoot hT i_1 i_2 i_3 i_4 _ _ h10 (by rw [h0]; exact hk.1)))), (fun _ _ h => h), uL_shoot l hl0 Γ lo S X v_z h9 (by simpa using hn)⟩
def A_gameAt (M : zMs) (i_1 : Int32) : Int32 := an [1] (fX10_gameAt M i_1)
theorem aL_gameAt (l : Launch) (hl0 : l.stackTraces = false) (Γ : zG) (a : Nat) (M : zMs) (X : va_W) (i_1 : Int32) : Met l yL_gameAt wsL_gameAt rmL_gameAt (GP Γ (TW Γ a M X) [.ref a, .int i_1]) (GQ Γ (TW Γ a M X) (some (.int (A_gameAt M i_1)))) 1 6 (zA Γ) := by
  refine tw_met (As := [.int i_1]) (fun lo S hT => ?_)
  have v_z := zsteps_tie.1 _ _ hT
  rcases zsteps_tie.2.2.2.2.2.2.2.2.2.2.2.1 S M i_1 hT with ⟨y, r, M1, h9, h10, h0, hv, hT1⟩ | ⟨ee, r, M1, h9, h10, hn, h0, hT1⟩
  · dsimp only at hv hT1
    have eA : A_gameAt M i_1 = y := by
      unfold A_gameAt
      rw [h10, an_k h0]
      exact (i64_inj hv).symm
    rw [eA]
    exact ⟨S, S, (tie_hid hT1 (eqH_r _) (eqM_s (rd_gameAt hT i_1 _ _ h10))), (fun _ _ h => h), tL_gameAt l Γ lo S X v_z h9⟩
  · have hk := kx_1 hn
    have eA : A_gameAt M i_1 = exC ee.1 := by
      unfold A_gameAt
      rw [h10, an_w h0 hk.1]
      exact hk.2
    rw [eA]
    exact ⟨ee.2, ee.2, (tie_hid hT1 (eqH_r _) (eqM_s (rd_gameAt hT i_1 _ _ h10))), (fun _ _ h => h), uL_gameAt l hl0 Γ lo S X v_z h9 (by simpa using hn)⟩
def A_balls (M : zMs) (i_1 : Int32) : Int32 := an [1] (fX10_ballsLeft M i_1)
theorem aL_balls (l : Launch) (hl0 : l.stackTraces = false) (Γ : zG) (a : Nat) (M : zMs) (X : va_W) (i_1 : Int32) : Met l yL_balls wsL_balls rmL_balls (GP Γ (TW Γ a M X) [.ref a, .int i_1]) (GQ Γ (TW Γ a M X) (some (.int (A_balls M i_1)))) 1 6 (zA Γ) := by
  refine tw_met (As := [.int i_1]) (fun lo S hT => ?_)
  have v_z := zsteps_tie.1 _ _ hT
  rcases zsteps_tie.2.2.2.2.2.2.2.2.2.2.2.2.2.1 S M i_1 hT with ⟨y, r, M1, h9, h10, h0, hv, hT1⟩ | ⟨ee, r, M1, h9, h10, hn, h0, hT1⟩
  · dsimp only at hv hT1
    have eA : A_balls M i_1 = y := by
      unfold A_balls
      rw [h10, an_k h0]
      exact (i64_inj hv).symm
    rw [eA]
    exact ⟨S, S, (tie_hid hT1 (eqH_r _) (eqM_s (rd_ballsLeft hT i_1 _ _ h10))), (fun _ _ h => h), tL_balls l Γ lo S X v_z h9⟩
  · have hk := kx_1 hn
    have eA : A_balls M i_1 = exC ee.1 := by
      unfold A_balls
      rw [h10, an_w h0 hk.1]
      exact hk.2
    rw [eA]
    exact ⟨ee.2, ee.2, (tie_hid hT1 (eqH_r _) (eqM_s (rd_ballsLeft hT i_1 _ _ h10))), (fun _ _ h => h), uL_balls l hl0 Γ lo S X v_z h9 (by simpa using hn)⟩
def A_stack (M : zMs) (i_1 : Int32) : Int32 := an [1] (fX10_stack M i_1)
theorem aL_stack (l : Launch) (hl0 : l.stackTraces = false) (Γ : zG) (a : Nat) (M : zMs) (X : va_W) (i_1 : Int32) : Met l yL_stack wsL_stack rmL_stack (GP Γ (TW Γ a M X) [.ref a, .int i_1]) (GQ Γ (TW Γ a M X) (some (.int (A_stack M i_1)))) 1 6 (zA Γ) := by
  refine tw_met (As := [.int i_1]) (fun lo S hT => ?_)
  have v_z := zsteps_tie.1 _ _ hT
  rcases zsteps_tie.2.2.2.2.2.2.2.2.2.2.2.2.2.2.1 S M i_1 hT with ⟨y, r, M1, h9, h10, h0, hv, hT1⟩ | ⟨ee, r, M1, h9, h10, hn, h0, hT1⟩
  · dsimp only at hv hT1
    have eA : A_stack M i_1 = y := by
      unfold A_stack
      rw [h10, an_k h0]
      exact (i64_inj hv).symm
    rw [eA]
    exact ⟨S, S, (tie_hid hT1 (eqH_r _) (eqM_s (rd_stack hT i_1 _ _ h10))), (fun _ _ h => h), tL_stack l Γ lo S X v_z h9⟩
  · have hk := kx_1 hn
    have eA : A_stack M i_1 = exC ee.1 := by
      unfold A_stack
      rw [h10, an_w h0 hk.1]
      exact hk.2
    rw [eA]
    exact ⟨ee.2, ee.2, (tie_hid hT1 (eqH_r _) (eqM_s (rd_stack hT i_1 _ _ h10))), (fun _ _ h => h), uL_stack l hl0 Γ lo S X v_z h9 (by simpa using hn)⟩
def A_score (M : zMs) (i_1 : Int32) : Int32 := an [1] (fX10_score M i_1)
theorem aL_score (l : Launch) (hl0 : l.stackTraces = false) (Γ : zG) (a : Nat) (M : zMs) (X : va_W) (i_1 : Int32) : Met l yL_score wsL_score rmL_score (GP Γ (TW Γ a M X) [.ref a, .int i_1]) (GQ Γ (TW Γ a M X) (some (.int (A_score M i_1)))) 1 6 (zA Γ) := by
  refine tw_met (As := [.int i_1]) (fun lo S hT => ?_)
  have v_z := zsteps_tie.1 _ _ hT
  rcases zsteps_tie.2.2.2.2.2.2.2.2.2.2.2.2.2.2.2.1 S M i_1 hT with ⟨y, r, M1, h9, h10, h0, hv, hT1⟩ | ⟨ee, r, M1, h9, h10, hn, h0, hT1⟩
  · dsimp only at hv hT1
    have eA : A_score M i_1 = y := by
      unfold A_score
      rw [h10, an_k h0]
      exact (i64_inj hv).symm
    rw [eA]
    exact ⟨S, S, (tie_hid hT1 (eqH_r _) (eqM_s (rd_score hT i_1 _ _ h10))), (fun _ _ h => h), tL_score l Γ lo S X v_z h9⟩
  · have hk := kx_1 hn
    have eA : A_score M i_1 = exC ee.1 := by
      unfold A_score
      rw [h10, an_w h0 hk.1]
      exact hk.2
    rw [eA]
    exact ⟨ee.2, ee.2, (tie_hid hT1 (eqH_r _) (eqM_s (rd_score hT i_1 _ _ h10))), (fun _ _ h => h), uL_score l hl0 Γ lo S X v_z h9 (by simpa using hn)⟩
def A_byLog (M : zMs) (i_1 : Int32) : Int32 := an [1] (fX10_scoreByLog M i_1)
theorem aL_byLog (l : Launch) (hl0 : l.stackTraces = false) (Γ : zG) (a : Nat) (M : zMs) (X : va_W) (i_1 : Int32) : Met l yL_byLog wsL_byLog rmL_byLog (GP Γ (TW Γ a M X) [.ref a, .int i_1]) (GQ Γ (TW Γ a M X) (some (.int (A_byLog M i_1)))) 1 6 (zA Γ) := by
  refine tw_met (As := [.int i_1]) (fun lo S hT => ?_)
  have v_z := zsteps_tie.1 _ _ hT
  rcases zsteps_tie.2.2.2.2.2.2.2.2.2.2.2.2.2.2.2.2.1 S M i_1 hT with ⟨y, r, M1, h9, h10, h0, hv, hT1⟩ | ⟨ee, r, M1, h9, h10, hn, h0, hT1⟩
  · dsimp only at hv hT1
    have eA : A_byLog M i_1 = y.1 := by
      unfold A_byLog
      rw [h10, an_k h0]
      exact (i64_inj hv).symm
    rw [eA]
    exact ⟨y.2, y.2, (tie_hid hT1 (eqH_r _) (eqM_s (rd_scoreByLog hT i_1 _ _ h10))), (fun _ _ h => h), tL_byLog l Γ lo S X v_z h9⟩
  · have hk := kx_1 hn
    have eA : A_byLog M i_1 = exC ee.1 := by
      unfold A_byLog
      rw [h10, an_w h0 hk.1]
      exact hk.2
    rw [eA]
    exact ⟨ee.2, ee.2, (tie_hid hT1 (eqH_r _) (eqM_s (rd_scoreByLog hT i_1 _ _ h10))), (fun _ _ h => h), uL_byLog l hl0 Γ lo S X v_z h9 (by simpa using hn)⟩
def A_valid (M : zMs) (i_1 : Int32) : Int32 := an [1] (fX10_valid M i_1)
theorem aL_valid (l : Launch) (hl0 : l.stackTraces = false) (Γ : zG) (a : Nat) (M : zMs) (X : va_W) (i_1 : Int32) : Met l yL_valid wsL_valid rmL_valid (GP Γ (TW Γ a M X) [.ref a, .int i_1]) (GQ Γ (TW Γ a M X) (some (.int (A_valid M i_1)))) 1 6 (zA Γ) := by
  refine tw_met (As := [.int i_1]) (fun lo S hT => ?_)
  have v_z := zsteps_tie.1 _ _ hT
  rcases zsteps_tie.2.2.2.2.2.2.2.2.2.2.2.2.2.2.2.2.2.1 S M i_1 hT with ⟨y, r, M1, h9, h10, h0, hv, hT1⟩ | ⟨ee, r, M1, h9, h10, hn, h0, hT1⟩
  · dsimp only at hv hT1
    have eA : A_valid M i_1 = y.1 := by
      unfold A_valid
      rw [h10, an_k h0]
      exact (i64_inj hv).symm
    rw [eA]
    exact ⟨y.2, y.2, (tie_hid hT1 (eqH_r _) (eqM_s (rd_valid hT i_1 _ _ h10))), (fun _ _ h => h), tL_valid l Γ lo S X v_z h9⟩
  · have hk := kx_1 hn
    have eA : A_valid M i_1 = exC ee.1 := by
      unfold A_valid
      rw [h10, an_w h0 hk.1]
      exact hk.2
    rw [eA]
    exact ⟨ee.2, ee.2, (tie_hid hT1 (eqH_r _) (eqM_s (rd_valid hT i_1 _ _ h10))), (fun _ _ h => h), uL_valid l hl0 Γ lo S X v_z h9 (by simpa using hn)⟩
def A_logged (M : zMs) (i_1 : Int32) : Int32 := an [1] (fX10_logged M i_1)
theorem aL_logged (l : Launch) (hl0 : l.stackTraces = false) (Γ : zG) (a : Nat) (M : zMs) (X : va_W) (i_1 : Int32) : Met l yL_logged wsL_logged rmL_logged (GP Γ (TW Γ a M X) [.ref a, .int i_1]) (GQ Γ (TW Γ a M X) (some (.int (A_logged M i_1)))) 1 6 (zA Γ) := by
  refine tw_met (As := [.int i_1]) (fun lo S hT => ?_)
  have v_z := zsteps_tie.1 _ _ hT
  rcases zsteps_tie.2.2.2.2.2.2.2.2.2.2.2.2.2.2.2.2.2.2.1 S M i_1 hT with ⟨y, r, M1, h9, h10, h0, hv, hT1⟩ | ⟨ee, r, M1, h9, h10, hn, h0, hT1⟩
  · dsimp only at hv hT1
    have eA : A_logged M i_1 = y := by
      unfold A_logged
      rw [h10, an_k h0]
      exact (i64_inj hv).symm
    rw [eA]
    exact ⟨S, S, (tie_hid hT1 (eqH_r _) (eqM_s (rd_logged hT i_1 _ _ h10))), (fun _ _ h => h), tL_logged l Γ lo S X v_z h9⟩
  · have hk := kx_1 hn
    have eA : A_logged M i_1 = exC ee.1 := by
      unfold A_logged
      rw [h10, an_w h0 hk.1]
      exact hk.2
    rw [eA]
    exact ⟨ee.2, ee.2, (tie_hid hT1 (eqH_r _) (eqM_s (rd_logged hT i_1 _ _ h10))), (fun _ _ h => h), uL_logged l hl0 Γ lo S X v_z h9 (by simpa using hn)⟩
def A_entry (M : zMs) (i_1 : Int32) (i_2 : Int32) : Int64 := al (fX10_entryAt M i_1 i_2)
theorem aL_entry (l : Launch) (hl0 : l.stackTraces = false) (Γ : zG) (a : Nat) (M : zMs) (X : va_W) (i_1 : Int32) (i_2 : Int32) : Met l yL_entry wsL_entry rmL_entry (GP Γ (TW Γ a M X) [.ref a, .int i_1, .int i_2]) (GQ Γ (TW Γ a M X) (some (.long (A_entry M i_1 i_2)))) 1 6 (zA Γ) := by
  refine tw_met (As := [.int i_1, .int i_2]) (fun lo S hT => ?_)
  have v_z := zsteps_tie.1 _ _ hT
  rcases zsteps_tie.2.2.2.2.2.2.2.2.2.2.2.2.2.2.2.2.2.2.2.1 S M i_1 i_2 hT with ⟨y, r, M1, h9, h10, h0, hv, hT1⟩ | ⟨ee, r, M1, h9, h10, hn, h0, hT1⟩
  · dsimp only at hv hT1
    have eA : A_entry M i_1 i_2 = y := by
      unfold A_entry
      rw [h10, al_k h0]
      exact hv.symm
    rw [eA]
    exact ⟨S, S, (tie_hid hT1 (eqH_r _) (eqM_s (rd_entryAt hT i_1 i_2 _ _ h10))), (fun _ _ h => h), tL_entry l Γ lo S X v_z h9⟩
  · have hk := kx_1 hn
    have eA : A_entry M i_1 i_2 = (-2000000001 : Int64) := by
      unfold A_entry
      rw [h10, al_w h0 hk.1]
    rw [eA]
    exact ⟨ee.2, ee.2, (tie_hid hT1 (eqH_r _) (eqM_s (rd_entryAt hT i_1 i_2 _ _ h10))), (fun _ _ h => h), uL_entry l hl0 Γ lo S X v_z h9 (by simpa using hn)⟩
def A_twin (M : zMs) (i_1 : Int32) : Int32 := an [1] (fX10_twin M i_1)
theorem aL_twin (l : Launch) (hl0 : l.stackTraces = false) (Γ : zG) (a : Nat) (M : zMs) (X : va_W) (i_1 : Int32) : Met l yL_twin wsL_twin rmL_twin (GP Γ (TW Γ a M X) [.ref a, .int i_1]) (GQ Γ (TW Γ a M X) (some (.int (A_twin M i_1)))) 1 6 (zA Γ) := by
  refine tw_met (As := [.int i_1]) (fun lo S hT => ?_)
  have v_z := zsteps_tie.1 _ _ hT
  rcases zsteps_tie.2.2.2.2.2.2.2.2.2.2.2.2.2.2.2.2.2.2.2.2.1 S M i_1 hT with ⟨y, r, M1, h9, h10, h0, hv, hT1⟩ | ⟨ee, r, M1, h9, h10, hn, h0, hT1⟩
  · dsimp only at hv hT1
    have eA : A_twin M i_1 = y := by
      unfold A_twin
      rw [h10, an_k h0]
      exact (i64_inj hv).symm
    rw [eA]
    exact ⟨S, S, (tie_hid hT1 (eqH_r _) (eqM_s (rd_twin hT i_1 _ _ h10))), (fun _ _ h => h), tL_twin l Γ lo S X v_z h9⟩
  · have hk := kx_1 hn
    have eA : A_twin M i_1 = exC ee.1 := by
      unfold A_twin
      rw [h10, an_w h0 hk.1]
      exact hk.2
    rw [eA]
    exact ⟨ee.2, ee.2, (tie_hid hT1 (eqH_r _) (eqM_s (rd_twin hT i_1 _ _ h10))), (fun _ _ h => h), uL_twin l hl0 Γ lo S X v_z h9 (by simpa using hn)⟩
def A_high (M : zMs) (i_1 : Int32) (i_2 : Int32) : Int32 := an [1, 2] (fX10_high M i_1 i_2)
theorem aL_high (l : Launch) (hl0 : l.stackTraces = false) (Γ : zG) (a : Nat) (M : zMs) (X : va_W) (i_1 : Int32) (i_2 : Int32) : Met l yL_high wsL_high rmL_high (GP Γ (TW Γ a M X) [.ref a, .int i_1, .int i_2]) (GQ Γ (TW Γ a M X) (some (.int (A_high M i_1 i_2)))) 1 6 (zA Γ) := by
  refine tw_met (As := [.int i_1, .int i_2]) (fun lo S hT => ?_)
  have v_z := zsteps_tie.1 _ _ hT
  rcases zsteps_tie.2.2.2.2.2.2.2.2.2.2.2.2.2.2.2.2.2.2.2.2.2.1 S M i_1 i_2 hT with ⟨y, r, M1, h9, h10, h0, hv, hT1⟩ | ⟨ee, r, M1, h9, h10, hn, h0, hT1⟩
  · dsimp only at hv hT1
    have eA : A_high M i_1 i_2 = y.1 := by
      unfold A_high
      rw [h10, an_k h0]
      exact (i64_inj hv).symm
    rw [eA]
    exact ⟨y.2, y.2, (tie_hid hT1 (eqH_r _) (eqM_s (rd_high hT i_1 i_2 _ _ h10))), (fun _ _ h => h), tL_high l Γ lo S X v_z h9⟩
  · have hk := kx_12 hn
    have eA : A_high M i_1 i_2 = exC ee.1 := by
      unfold A_high
      rw [h10, an_w h0 hk.1]
      exact hk.2
    rw [eA]
    exact ⟨ee.2, ee.2, (tie_hid hT1 (eqH_r _) (eqM_s (rd_high hT i_1 i_2 _ _ h10))), (fun _ _ h => h), uL_high l hl0 Γ lo S X v_z h9 (by simpa using hn)⟩
def A_rob (M : zMs) (i_1 : Int32) (i_2 : Int32) : Int32 := an [1, 2, 3] (fX10_rob M i_1 i_2)
def N_rob (M : zMs) (i_1 : Int32) (i_2 : Int32) : zMs := nx M (fX10_rob M i_1 i_2)
theorem aL_rob (l : Launch) (hl0 : l.stackTraces = false) (Γ : zG) (a : Nat) (M : zMs) (X : va_W) (i_1 : Int32) (i_2 : Int32) : Met l yL_rob wsL_rob rmL_rob (GP Γ (TW Γ a M X) [.ref a, .int i_1, .int i_2]) (GQ Γ (TW Γ a (N_rob M i_1 i_2) X) (some (.int (A_rob M i_1 i_2)))) 1 6 (zA Γ) := by
  refine tw_met (As := [.int i_1, .int i_2]) (fun lo S hT => ?_)
  have v_z := zsteps_tie.1 _ _ hT
  rcases zsteps_tie.2.2.2.2.2.2.2.2.2.2.2.2.2.2.2.2.2.2.2.2.2.2.1 S M i_1 i_2 hT with ⟨y, r, M1, h9, h10, h0, hv, hT1⟩ | ⟨ee, r, M1, h9, h10, hn, h0, hT1⟩
  · dsimp only at hv hT1
    have eA : A_rob M i_1 i_2 = y.1 := by
      unfold A_rob
      rw [h10, an_k h0]
      exact (i64_inj hv).symm
    rw [eA]
    have eN : N_rob M i_1 i_2 = M1 := by
      unfold N_rob
      rw [h10, nx_k h0]
    rw [eN]
    exact ⟨y.2, y.2, hT1, (fun _ _ h => h), tL_rob l Γ lo S X v_z h9⟩
  · have hk := kx_123 hn
    have eA : A_rob M i_1 i_2 = exC ee.1 := by
      unfold A_rob
      rw [h10, an_w h0 hk.1]
      exact hk.2
    rw [eA]
    have eN : N_rob M i_1 i_2 = M := by
      unfold N_rob
      rw [h10, nx_w (by rw [h0]; exact hk.1)]
    rw [eN]
    exact ⟨ee.2, ee.2, (tie_hid hT1 (eqH_r _) (eqM_s (wr_rob hT i_1 i_2 _ _ h10 (by rw [h0]; exact hk.1)))), (fun _ _ h => h), uL_rob l hl0 Γ lo S X v_z h9 (by simpa using hn)⟩
def A_box (M : zMs) (i_1 : Int32) : Int32 := an [1] (fX10_box M i_1)
theorem aL_box (l : Launch) (hl0 : l.stackTraces = false) (Γ : zG) (a : Nat) (M : zMs) (X : va_W) (i_1 : Int32) : Met l yL_box wsL_box rmL_box (GP Γ (TW Γ a M X) [.ref a, .int i_1]) (GQ Γ (TW Γ a M X) (some (.int (A_box M i_1)))) 1 6 (zA Γ) := by
  refine tw_met (As := [.int i_1]) (fun lo S hT => ?_)
  have v_z := zsteps_tie.1 _ _ hT
  rcases zsteps_tie.2.2.2.2.2.2.2.2.2.2.2.2.2.2.2.2.2.2.2.2.2.2.2.1 S M i_1 hT with ⟨y, r, M1, h9, h10, h0, hv, hT1⟩ | ⟨ee, r, M1, h9, h10, hn, h0, hT1⟩
  · dsimp only at hv hT1
    have eA : A_box M i_1 = y := by
      unfold A_box
      rw [h10, an_k h0]
      exact (i64_inj hv).symm
    rw [eA]
    exact ⟨S, S, (tie_hid hT1 (eqH_r _) (eqM_s (rd_box hT i_1 _ _ h10))), (fun _ _ h => h), tL_box l Γ lo S X v_z h9⟩
  · have hk := kx_1 hn
    have eA : A_box M i_1 = exC ee.1 := by
      unfold A_box
      rw [h10, an_w h0 hk.1]
      exact hk.2
    rw [eA]
    exact ⟨ee.2, ee.2, (tie_hid hT1 (eqH_r _) (eqM_s (rd_box hT i_1 _ _ h10))), (fun _ _ h => h), uL_box l hl0 Γ lo S X v_z h9 (by simpa using hn)⟩
def A_missing (M : zMs) (i_1 : Int32) : Int32 := an [1] (fX10_missing M i_1)
theorem aL_missing (l : Launch) (hl0 : l.stackTraces = false) (Γ : zG) (a : Nat) (M : zMs) (X : va_W) (i_1 : Int32) : Met l yL_missing wsL_missing rmL_missing (GP Γ (TW Γ a M X) [.ref a, .int i_1]) (GQ Γ (TW Γ a M X) (some (.int (A_missing M i_1)))) 1 6 (zA Γ) := by
  refine tw_met (As := [.int i_1]) (fun lo S hT => ?_)
  have v_z := zsteps_tie.1 _ _ hT
  rcases zsteps_tie.2.2.2.2.2.2.2.2.2.2.2.2.2.2.2.2.2.2.2.2.2.2.2.2.1 S M i_1 hT with ⟨y, r, M1, h9, h10, h0, hv, hT1⟩ | ⟨ee, r, M1, h9, h10, hn, h0, hT1⟩
  · dsimp only at hv hT1
    have eA : A_missing M i_1 = y := by
      unfold A_missing
      rw [h10, an_k h0]
      exact (i64_inj hv).symm
    rw [eA]
    exact ⟨S, S, (tie_hid hT1 (eqH_r _) (eqM_s (rd_missing hT i_1 _ _ h10))), (fun _ _ h => h), tL_missing l Γ lo S X v_z h9⟩
  · have hk := kx_1 hn
    have eA : A_missing M i_1 = exC ee.1 := by
      unfold A_missing
      rw [h10, an_w h0 hk.1]
      exact hk.2
    rw [eA]
    exact ⟨ee.2, ee.2, (tie_hid hT1 (eqH_r _) (eqM_s (rd_missing hT i_1 _ _ h10))), (fun _ _ h => h), uL_missing l hl0 Γ lo S X v_z h9 (by simpa using hn)⟩
def A_load (M : zMs) (i_1 : Int32) (i_2 : Int32) (i_3 : Int32) : Int32 := an [1, 2, 3] (fX10_load_ M i_1 i_2 i_3)
def N_load (M : zMs) (i_1 : Int32) (i_2 : Int32) (i_3 : Int32) : zMs := nx M (fX10_load_ M i_1 i_2 i_3)
theorem aL_load (l : Launch) (hl0 : l.stackTraces = false) (Γ : zG) (a : Nat) (M : zMs) (X : va_W) (i_1 : Int32) (i_2 : Int32) (i_3 : Int32) : Met l yL_load wsL_load rmL_load (GP Γ (TW Γ a M X) [.ref a, .int i_1, .int i_2, .int i_3]) (GQ Γ (TW Γ a (N_load M i_1 i_2 i_3) X) (some (.int (A_load M i_1 i_2 i_3)))) 1 6 (zA Γ) := by
  refine tw_met (As := [.int i_1, .int i_2, .int i_3]) (fun lo S hT => ?_)
  have v_z := zsteps_tie.1 _ _ hT
  rcases zsteps_tie.2.2.2.2.2.2.2.2.2.2.2.2.2.2.2.2.2.2.2.2.2.2.2.2.2.1 S M i_1 i_2 i_3 hT with ⟨y, r, M1, h9, h10, h0, hv, hT1⟩ | ⟨ee, r, M1, h9, h10, hn, h0, hT1⟩
  · dsimp only at hv hT1
    have eA : A_load M i_1 i_2 i_3 = y.1 := by
      unfold A_load
      rw [h10, an_k h0]
      exact (i64_inj hv).symm
    rw [eA]
    have eN : N_load M i_1 i_2 i_3 = M1 := by
      unfold N_load
      rw [h10, nx_k h0]
    rw [eN]
    exact ⟨y.2, y.2, hT1, (fun _ _ h => h), tL_load l Γ lo S X v_z h9⟩
  · have hk := kx_123 hn
    have eA : A_load M i_1 i_2 i_3 = exC ee.1 := by
      unfold A_load
      rw [h10, an_w h0 hk.1]
      exact hk.2
    rw [eA]
    have eN : N_load M i_1 i_2 i_3 = M := by
      unfold N_load
      rw [h10, nx_w (by rw [h0]; exact hk.1)]
    rw [eN]
    exact ⟨ee.2, ee.2, (tie_hid hT1 (eqH_r _) (eqM_s (wr_load hT i_1 i_2 i_3 _ _ h10 (by rw [h0]; exact hk.1)))), (fun _ _ h => h), uL_load l hl0 Γ lo S X v_z h9 (by simpa using hn)⟩
def A_parts (M : zMs) (i_1 : Int32) (i_2 : Int32) : Int32 := an [1, 2] (fX10_parts M i_1 i_2)
theorem aL_parts (l : Launch) (hl0 : l.stackTraces = false) (Γ : zG) (a : Nat) (M : zMs) (X : va_W) (i_1 : Int32) (i_2 : Int32) : Met l yL_parts wsL_parts rmL_parts (GP Γ (TW Γ a M X) [.ref a, .int i_1, .int i_2]) (GQ Γ (TW Γ a M X) (some (.int (A_parts M i_1 i_2)))) 1 6 (zA Γ) := by
  refine tw_met (As := [.int i_1, .int i_2]) (fun lo S hT => ?_)
  have v_z := zsteps_tie.1 _ _ hT
  rcases zsteps_tie.2.2.2.2.2.2.2.2.2.2.2.2.2.2.2.2.2.2.2.2.2.2.2.2.2.2.1 S M i_1 i_2 hT with ⟨y, r, M1, h9, h10, h0, hv, hT1⟩ | ⟨ee, r, M1, h9, h10, hn, h0, hT1⟩
  · dsimp only at hv hT1
    have eA : A_parts M i_1 i_2 = y := by
      unfold A_parts
      rw [h10, an_k h0]
      exact (i64_inj hv).symm
    rw [eA]
    exact ⟨S, S, (tie_hid hT1 (eqH_r _) (eqM_s (rd_parts hT i_1 i_2 _ _ h10))), (fun _ _ h => h), tL_parts l Γ lo S X v_z h9⟩
  · have hk := kx_12 hn
    have eA : A_parts M i_1 i_2 = exC ee.1 := by
      unfold A_parts
      rw [h10, an_w h0 hk.1]
      exact hk.2
    rw [eA]
    exact ⟨ee.2, ee.2, (tie_hid hT1 (eqH_r _) (eqM_s (rd_parts hT i_1 i_2 _ _ h10))), (fun _ _ h => h), uL_parts l hl0 Γ lo S X v_z h9 (by simpa using hn)⟩
def A_wanted (M : zMs) (i_1 : Int32) : Int32 := an [2] (fX10_wanted M i_1)
theorem aL_wanted (l : Launch) (hl0 : l.stackTraces = false) (Γ : zG) (a : Nat) (M : zMs) (X : va_W) (i_1 : Int32) : Met l yL_wanted wsL_wanted rmL_wanted (GP Γ (TW Γ a M X) [.ref a, .int i_1]) (GQ Γ (TW Γ a M X) (some (.int (A_wanted M i_1)))) 1 6 (zA Γ) := by
  refine tw_met (As := [.int i_1]) (fun lo S hT => ?_)
  have v_z := zsteps_tie.1 _ _ hT
  rcases zsteps_tie.2.2.2.2.2.2.2.2.2.2.2.2.2.2.2.2.2.2.2.2.2.2.2.2.2.2.2.1 S M i_1 hT with ⟨y, r, M1, h9, h10, h0, hv, hT1⟩ | ⟨ee, r, M1, h9, h10, hn, h0, hT1⟩
  · dsimp only at hv hT1
    have eA : A_wanted M i_1 = y := by
      unfold A_wanted
      rw [h10, an_k h0]
      exact (i64_inj hv).symm
    rw [eA]
    exact ⟨S, S, (tie_hid hT1 (eqH_r _) (eqM_s (rd_wanted hT i_1 _ _ h10))), (fun _ _ h => h), tL_wanted l Γ lo S X v_z h9⟩
  · have hk := kx_2 hn
    have eA : A_wanted M i_1 = exC ee.1 := by
      unfold A_wanted
      rw [h10, an_w h0 hk.1]
      exact hk.2
    rw [eA]
    exact ⟨ee.2, ee.2, (tie_hid hT1 (eqH_r _) (eqM_s (rd_wanted hT i_1 _ _ h10))), (fun _ _ h => h), uL_wanted l hl0 Γ lo S X v_z h9 (by simpa using hn)⟩
def A_way (M : zMs) (i_1 : Int32) : Int32 := an [1] (fX10_way M i_1)
theorem aL_way (l : Launch) (hl0 : l.stackTraces = false) (Γ : zG) (a : Nat) (M : zMs) (X : va_W) (i_1 : Int32) : Met l yL_way wsL_way rmL_way (GP Γ (TW Γ a M X) [.ref a, .int i_1]) (GQ Γ (TW Γ a M X) (some (.int (A_way M i_1)))) 1 6 (zA Γ) := by
  refine tw_met (As := [.int i_1]) (fun lo S hT => ?_)
  have v_z := zsteps_tie.1 _ _ hT
  rcases zsteps_tie.2.2.2.2.2.2.2.2.2.2.2.2.2.2.2.2.2.2.2.2.2.2.2.2.2.2.2.2.1 S M i_1 hT with ⟨y, r, M1, h9, h10, h0, hv, hT1⟩ | ⟨ee, r, M1, h9, h10, hn, h0, hT1⟩
  · dsimp only at hv hT1
    have eA : A_way M i_1 = y.1 := by
      unfold A_way
      rw [h10, an_k h0]
      exact (i64_inj hv).symm
    rw [eA]
    exact ⟨y.2, y.2, (tie_hid hT1 (eqH_r _) (eqM_s (rd_way hT i_1 _ _ h10))), (fun _ _ h => h), tL_way l Γ lo S X v_z h9⟩
  · have hk := kx_1 hn
    have eA : A_way M i_1 = exC ee.1 := by
      unfold A_way
      rw [h10, an_w h0 hk.1]
      exact hk.2
    rw [eA]
    exact ⟨ee.2, ee.2, (tie_hid hT1 (eqH_r _) (eqM_s (rd_way hT i_1 _ _ h10))), (fun _ _ h => h), uL_way l hl0 Γ lo S X v_z h9 (by simpa using hn)⟩
def A_planned (M : zMs) (i_1 : Int32) (i_2 : Int32) : Int32 := an [1] (fX10_planned M i_1 i_2)
theorem aL_planned (l : Launch) (hl0 : l.stackTraces = false) (Γ : zG) (a : Nat) (M : zMs) (X : va_W) (i_1 : Int32) (i_2 : Int32) : Met l yL_planned wsL_planned rmL_planned (GP Γ (TW Γ a M X) [.ref a, .int i_1, .int i_2]) (GQ Γ (TW Γ a M X) (some (.int (A_planned M i_1 i_2)))) 1 6 (zA Γ) := by
  refine tw_met (As := [.int i_1, .int i_2]) (fun lo S hT => ?_)
  have v_z := zsteps_tie.1 _ _ hT
  rcases zsteps_tie.2.2.2.2.2.2.2.2.2.2.2.2.2.2.2.2.2.2.2.2.2.2.2.2.2.2.2.2.2.1 S M i_1 i_2 hT with ⟨y, r, M1, h9, h10, h0, hv, hT1⟩ | ⟨ee, r, M1, h9, h10, hn, h0, hT1⟩
  · dsimp only at hv hT1
    have eA : A_planned M i_1 i_2 = y.1 := by
      unfold A_planned
      rw [h10, an_k h0]
      exact (i64_inj hv).symm
    rw [eA]
    exact ⟨y.2, y.2, (tie_hid hT1 (eqH_r _) (eqM_s (rd_planned hT i_1 i_2 _ _ h10))), (fun _ _ h => h), tL_planned l Γ lo S X v_z h9⟩
  · have hk := kx_1 hn
    have eA : A_planned M i_1 i_2 = exC ee.1 := by
      unfold A_planned
      rw [h10, an_w h0 hk.1]
      exact hk.2
    rw [eA]
    exact ⟨ee.2, ee.2, (tie_hid hT1 (eqH_r _) (eqM_s (rd_planned hT i_1 i_2 _ _ h10))), (fun _ _ h => h), uL_planned l hl0 Γ lo S X v_z h9 (by simpa using hn)⟩
def A_go (M : zMs) (i_1 : Int32) : Int32 := an [1, 3] (fX10_go M i_1)
def N_go (M : zMs) (i_1 : Int32) : zMs := nx M (fX10_go M i_1)
theorem aL_go (l : Launch) (hl0 : l.stackTraces = false) (Γ : zG) (a : Nat) (M : zMs) (X : va_W) (i_1 : Int32) : Met l yL_go wsL_go rmL_go (GP Γ (TW Γ a M X) [.ref a, .int i_1]) (GQ Γ (TW Γ a (N_go M i_1) X) (some (.int (A_go M i_1)))) 1 6 (zA Γ) := by
  refine tw_met (As := [.int i_1]) (fun lo S hT => ?_)
  have v_z := zsteps_tie.1 _ _ hT
  rcases zsteps_tie.2.2.2.2.2.2.2.2.2.2.2.2.2.2.2.2.2.2.2.2.2.2.2.2.2.2.2.2.2.2.1 S M i_1 hT with ⟨y, r, M1, h9, h10, h0, hv, hT1⟩ | ⟨ee, r, M1, h9, h10, hn, h0, hT1⟩
  · dsimp only at hv hT1
    have eA : A_go M i_1 = y.1 := by
      unfold A_go
      rw [h10, an_k h0]
      exact (i64_inj hv).symm
    rw [eA]
    have eN : N_go M i_1 = M1 := by
      unfold N_go
      rw [h10, nx_k h0]
    rw [eN]
    exact ⟨y.2, y.2, hT1, (fun _ _ h => h), tL_go l Γ lo S X v_z h9⟩
  · have hk := kx_13 hn
    have eA : A_go M i_1 = exC ee.1 := by
      unfold A_go
      rw [h10, an_w h0 hk.1]
      exact hk.2
    rw [eA]
    have eN : N_go M i_1 = M := by
      unfold N_go
      rw [h10, nx_w (by rw [h0]; exact hk.1)]
    rw [eN]
    exact ⟨ee.2, ee.2, (tie_hid hT1 (eqH_r _) (eqM_s (wr_go hT i_1 _ _ h10 (by rw [h0]; exact hk.1)))), (fun _ _ h => h), uL_go l hl0 Γ lo S X v_z h9 (by simpa using hn)⟩
def A_vanAt (M : zMs) (i_1 : Int32) : Int32 := an [1] (fX10_vanAt M i_1)
theorem aL_vanAt (l : Launch) (hl0 : l.stackTraces = false) (Γ : zG) (a : Nat) (M : zMs) (X : va_W) (i_1 : Int32) : Met l yL_vanAt wsL_vanAt rmL_vanAt (GP Γ (TW Γ a M X) [.ref a, .int i_1]) (GQ Γ (TW Γ a M X) (some (.int (A_vanAt M i_1)))) 1 6 (zA Γ) := by
  refine tw_met (As := [.int i_1]) (fun lo S hT => ?_)
  have v_z := zsteps_tie.1 _ _ hT
  rcases zsteps_tie.2.2.2.2.2.2.2.2.2.2.2.2.2.2.2.2.2.2.2.2.2.2.2.2.2.2.2.2.2.2.2 S M i_1 hT with ⟨y, r, M1, h9, h10, h0, hv, hT1⟩ | ⟨ee, r, M1, h9, h10, hn, h0, hT1⟩
  · dsimp only at hv hT1
    have eA : A_vanAt M i_1 = y := by
      unfold A_vanAt
      rw [h10, an_k h0]
      exact (i64_inj hv).symm
    rw [eA]
    exact ⟨S, S, (tie_hid hT1 (eqH_r _) (eqM_s (rd_vanAt hT i_1 _ _ h10))), (fun _ _ h => h), tL_vanAt l Γ lo S X v_z h9⟩
  · have hk := kx_1 hn
    have eA : A_vanAt M i_1 = exC ee.1 := by
      unfold A_vanAt
      rw [h10, an_w h0 hk.1]
      exact hk.2
    rw [eA]
    exact ⟨ee.2, ee.2, (tie_hid hT1 (eqH_r _) (eqM_s (rd_vanAt hT i_1 _ _ h10))), (fun _ _ h => h), uL_vanAt l hl0 Γ lo S X v_z h9 (by simpa using hn)⟩
