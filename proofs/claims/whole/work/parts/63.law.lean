theorem kL_ne1 {a n : Nat} (h : n ∈ [a]) : kL [a] n ≠ 0 := by
  rcases List.mem_singleton.mp h with rfl
  unfold kL; rw [if_pos rfl]; decide
theorem kL_ne : ∀ (nums : List Nat) (n : Nat), n ∈ nums → nums.length ≤ 3 → kL nums n ≠ 0 := by
  intro nums n h hl
  match nums, h, hl with
  | [a], h, _ => exact kL_ne1 h
  | [a, b], h, _ =>
    unfold kL
    by_cases e : n = a
    · rw [if_pos e]; decide
    · rw [if_neg e]
      have : n = b := by simpa [e] using h
      unfold kL; rw [if_pos this]; decide
  | [a, b, d], h, _ =>
    unfold kL
    by_cases e : n = a
    · rw [if_pos e]; decide
    · rw [if_neg e]
      unfold kL
      by_cases e2 : n = b
      · rw [if_pos e2]; decide
      · rw [if_neg e2]
        have : n = d := by simpa [e, e2] using h
        unfold kL; rw [if_pos this]; decide
theorem lg_same (a : Int64) : lg_cmp a a = 0 := by unfold lg_cmp; simp
theorem tg_ball (S : zSt) (d : zId) : ¬ zTg S d (1, 0, 0) := by
  obtain ⟨k, i, j⟩ := d
  intro h
  match k, h with
  | 0, h => cases congrArg Prod.fst h.2
  | 3, h => rcases h with h | h | h <;> cases congrArg Prod.fst h
  | 5, h => rcases h with h | h | h <;> cases congrArg Prod.fst h
  | 6, h => rcases h with h | h <;> cases congrArg Prod.fst h
  | 7, h => rcases h with h | h <;> cases congrArg Prod.fst h
  | 8, h => rcases h with h | h <;> cases congrArg Prod.fst h
  | 9, h => cases congrArg Prod.fst h
  | 10, h => rcases h with h | h | h | h | h | h | h | h <;> cases congrArg Prod.fst h
  | 13, h => obtain ⟨_, _, _, h⟩ := h; cases congrArg Prod.fst h
  | 23, h =>
    obtain ⟨z, _, h⟩ := h
    match i, h with
    | 0, h => cases congrArg Prod.fst h
    | 1, h => cases congrArg Prod.fst h
    | t + 2, h => cases congrArg Prod.fst h
theorem wd_cnt {Γ : zG} {lo : zId → Nat} {S : zSt} {X : va_W} {H : Heap} (h : Wd Γ lo S X H) (n : Nat) : Wd Γ lo (pN S (10, 0, 0) 0 n) X H := by
  obtain ⟨h1, h2, h3, ws, hP, hD, hn⟩ := h
  have e : ∀ c : zId, ct Γ lo (pN S (10, 0, 0) 0 n) c = ct Γ lo S c := by
    intro c
    by_cases hc : c = (10, 0, 0)
    · subst hc; rfl
    · exact ct_pNn Γ lo S hc 0 n
  refine ⟨h1, ?_, h3, ws, hP, hD, fun c hc => by rw [e]; exact hn c hc⟩
  intro c d hc ht
  refine h2 c d hc ?_
  by_cases hc2 : c = (10, 0, 0)
  · subst hc2; exact ht
  · unfold zTg at ht ⊢
    rw [zN_pN, if_neg hc2] at ht
    exact ht
/-- what the law's walk has at hand -/
def lwC (p : Program) (s : State) (m : MethodId) (meth : Method) (c : Code) (Γ : zG) (b L : Nat) (xs : Nat → Int32) : Prop :=
  p.tables.exec = Jvm.exec ∧ c.code = cL_law ∧ c.maxLocals = 8 ∧ s.vm.findClass RL = some m.cls ∧ (∀ w ∈ wsL_law, w.before #[Value.ref b] s = true) ∧ va_X b L xs s s.heap ∧ b < s.heap.size ∧ ¬ zA Γ b ∧ Γ.2.2.1 ≤ s.heap.size ∧ KK Γ s ∧ KX s ∧ KY s ∧ KN s
abbrev lwLv (lo : zId → Nat) (q0 qo b : Nat) (iv : Int32) : List (Nat × Value) := [(4, .int iv), (3, .ref qo), (2, .ref q0), (1, .ref (lo (10, 0, 0))), (0, .ref b)]
section ZW
variable {p : Program} {l : Launch} {e : Env} {R : Room} {s : State} {m : MethodId} {args : Array Value} {below : List Frame} {meth : Method} {c : Code} {H : Heap} {locs : List Loc} {cells slots : Nat} {Q : State → Prop}
variable {cc : ByteArray} {pc : Nat} {ls : Array Slot} {rest : List Value} {Γ : zG} {lo : zId → Nat} {S S0 S1 : zSt} {X X1 : va_W} {H0 : Heap} {v : (zId → Nat) → Option Value} {E : (zId → Nat) → Prop}
theorem w_call {Ts ws : List Cond} {bytes : ByteArray} {nL maxL index n mc ms : Nat} {hh : List (Nat × Nat × Nat × Nat)} {own : String} {y : MethodName} {ret : Option FieldType} {rm : Room} {As : List Value}
    (F : CallFix p m c cc nL s args Ts own) (hM : Met l y ws rm (zPL Γ lo S X As) (zQn Γ lo S S1 X1 v E) mc ms (zA Γ)) (cw : vx_CSW R s args own index y bytes maxL ret hh ws rm mc ms n) (hKK : KK Γ s) (hKX : KX s) (hKY : KY s) (hKN : KN s) (hW : Wd Γ lo S X H) (hS : va_S (zA Γ) s.heap H locs)
    (hn : As.length = n) (hsize : ls.size = nL) {st0 : List Value} (hst : st0 = As.reverse ++ rest) (hR : (rest.map fun v => v.category).sum ≤ 8) (hdg : decode cc pc = .ok (.invokestatic index, 3)) (hf : cells + mc ≤ R.cells ∧ slots + ms ≤ R.slots)
    (kk : ∀ (lo1 : zId → Nat) (H1 : Heap) (locs1 : List Loc), Wd Γ lo1 S1 X1 H1 → va_S (zA Γ) s.heap H1 locs1 → (∀ d, zV S d = true → lo1 d = lo d) → (∀ d, zV S d = true → zV S1 d = true) → E lo1 → W p l e R s m args below meth c H1 locs1 (cells + mc) (slots + ms) Q (F0 m (pc + 3) ls ((v lo1).toList ++ rest))) : W p l e R s m args below meth c H locs cells slots Q (F0 m pc ls st0) :=
  n_go (vx_runSW F hM cw ⟨fun _ _ _ _ q => q, fun _ hU hW1 => ⟨rfl, by rw [hU]; exact hW, hKK.go hS hU hW1, hKX.go hW1, hKY.go hW1, hKN.go hW1⟩⟩ rfl hn hsize hst (lv_room hR) hdg hf) hS kk
end ZW
theorem st_addTable {T : zSt → zMs → Prop} (h : zSteps T) : ∀ (S : zSt) (M : zMs) (i_1 i_2 : Int32), T S M → zOk T [2, 3] (fun y : (Int32 × zSt) => (y.1).toInt64) (fun y : (Int32 × zSt) => y.2) (fX9_addTable S i_1 i_2) (fun b : Int32 => b.toInt64) (fX10_addTable M i_1 i_2) := h.2.1
theorem st_addBumper {T : zSt → zMs → Prop} (h : zSteps T) : ∀ (S : zSt) (M : zMs) (i_1 i_2 i_3 i_4 i_5 : Int32), T S M → zOk T [1, 2, 3] (fun y : (Int32 × zSt) => (y.1).toInt64) (fun y : (Int32 × zSt) => y.2) (fX9_addBumper S i_1 i_2 i_3 i_4 i_5) (fun b : Int32 => b.toInt64) (fX10_addBumper M i_1 i_2 i_3 i_4 i_5) := h.2.2.1
theorem st_setPoints {T : zSt → zMs → Prop} (h : zSteps T) : ∀ (S : zSt) (M : zMs) (i_1 i_2 i_3 : Int32), T S M → zOk T [1, 2, 3] (fun y : (Int32 × zSt) => (y.1).toInt64) (fun y : (Int32 × zSt) => y.2) (fX9_setPoints S i_1 i_2 i_3) (fun b : Int32 => b.toInt64) (fX10_setPoints M i_1 i_2 i_3) := h.2.2.2.1
theorem st_setMode {T : zSt → zMs → Prop} (h : zSteps T) : ∀ (S : zSt) (M : zMs) (i_1 i_2 i_3 i_4 i_5 : Int32), T S M → zOk T [1, 2, 3] (fun y : (Int32 × zSt) => (if y.1 = 0 then (0 : Int64) else 1)) (fun y : (Int32 × zSt) => (pN y.2 (10, 0, 0) 0 (zN y.2 (10, 0, 0) 0 + 1))) (fX9_setMode S i_1 i_2 i_3 i_4 i_5) (fun b : Int32 => (if b = 0 then (0 : Int64) else 1)) (fX10_setMode M i_1 i_2 i_3 i_4 i_5) := h.2.2.2.2.1
theorem st_tables {T : zSt → zMs → Prop} (h : zSteps T) : ∀ S M, T S M → ∃ n M1, fX9_tables S = some n ∧ fX10_tables M = some (n, M1) ∧ T S M1 := h.2.2.2.2.2.1
theorem st_stick {T : zSt → zMs → Prop} (h : zSteps T) : ∀ (S : zSt) (M : zMs) (i_1 i_2 : Int32), T S M → zOk T [1, 3] (fun y : (Int32 × zSt) => (y.1).toInt64) (fun y : (Int32 × zSt) => y.2) (fX9_stick S i_1 i_2) (fun b : Int32 => b.toInt64) (fX10_stick M i_1 i_2) := h.2.2.2.2.2.2.1
theorem st_sticks {T : zSt → zMs → Prop} (h : zSteps T) : ∀ (S : zSt) (M : zMs) (i_1 i_2 : Int32), T S M → zOk T [1] (fun y : Int32 => (if y = 0 then (0 : Int64) else 1)) (fun y : Int32 => S) (fX9_sticks S i_1 i_2) (fun b : Int32 => (if b = 0 then (0 : Int64) else 1)) (fX10_sticks M i_1 i_2) := h.2.2.2.2.2.2.2.1
theorem st_wear {T : zSt → zMs → Prop} (h : zSteps T) : ∀ (S : zSt) (M : zMs) (i_1 i_2 : Int32), T S M → zOk T [1] (fun y : Int32 => (y).toInt64) (fun y : Int32 => S) (fX9_wear S i_1 i_2) (fun b : Int32 => b.toInt64) (fX10_wear M i_1 i_2) := h.2.2.2.2.2.2.2.2.1
theorem st_coin {T : zSt → zMs → Prop} (h : zSteps T) : ∀ (S : zSt) (M : zMs) (i_1 : Int32), T S M → zOk T [1, 3] (fun y : (Int32 × zSt) => (y.1).toInt64) (fun y : (Int32 × zSt) => y.2) (fX9_coin S i_1) (fun b : Int32 => b.toInt64) (fX10_coin M i_1) := h.2.2.2.2.2.2.2.2.2.1
theorem st_shoot {T : zSt → zMs → Prop} (h : zSteps T) : ∀ (S : zSt) (M : zMs) (i_1 i_2 i_3 i_4 : Int32), T S M → zOk T [1, 2, 3] (fun y : (Int32 × zSt) => (y.1).toInt64) (fun y : (Int32 × zSt) => (pV y.2 (1, 0, 0) false)) (fX9_shoot S i_1 i_2 i_3 i_4) (fun b : Int32 => b.toInt64) (fX10_shoot M i_1 i_2 i_3 i_4) := h.2.2.2.2.2.2.2.2.2.2.1
theorem st_gameAt {T : zSt → zMs → Prop} (h : zSteps T) : ∀ (S : zSt) (M : zMs) (i_1 : Int32), T S M → zOk T [1] (fun y : Int32 => (y).toInt64) (fun y : Int32 => S) (fX9_gameAt S i_1) (fun b : Int32 => b.toInt64) (fX10_gameAt M i_1) := h.2.2.2.2.2.2.2.2.2.2.2.1
theorem st_games {T : zSt → zMs → Prop} (h : zSteps T) : ∀ S M, T S M → ∃ n M1, fX9_games S = some n ∧ fX10_games M = some (n, M1) ∧ T S M1 := h.2.2.2.2.2.2.2.2.2.2.2.2.1
theorem st_ballsLeft {T : zSt → zMs → Prop} (h : zSteps T) : ∀ (S : zSt) (M : zMs) (i_1 : Int32), T S M → zOk T [1] (fun y : Int32 => (y).toInt64) (fun y : Int32 => S) (fX9_ballsLeft S i_1) (fun b : Int32 => b.toInt64) (fX10_ballsLeft M i_1) := h.2.2.2.2.2.2.2.2.2.2.2.2.2.1
theorem st_stack {T : zSt → zMs → Prop} (h : zSteps T) : ∀ (S : zSt) (M : zMs) (i_1 : Int32), T S M → zOk T [1] (fun y : Int32 => (y).toInt64) (fun y : Int32 => S) (fX9_stack S i_1) (fun b : Int32 => b.toInt64) (fX10_stack M i_1) := h.2.2.2.2.2.2.2.2.2.2.2.2.2.2.1
theorem st_score {T : zSt → zMs → Prop} (h : zSteps T) : ∀ (S : zSt) (M : zMs) (i_1 : Int32), T S M → zOk T [1] (fun y : Int32 => (y).toInt64) (fun y : Int32 => S) (fX9_score S i_1) (fun b : Int32 => b.toInt64) (fX10_score M i_1) := h.2.2.2.2.2.2.2.2.2.2.2.2.2.2.2.1
theorem st_scoreByLog {T : zSt → zMs → Prop} (h : zSteps T) : ∀ (S : zSt) (M : zMs) (i_1 : Int32), T S M → zOk T [1] (fun y : (Int32 × zSt) => (y.1).toInt64) (fun y : (Int32 × zSt) => y.2) (fX9_scoreByLog S i_1) (fun b : Int32 => b.toInt64) (fX10_scoreByLog M i_1) := h.2.2.2.2.2.2.2.2.2.2.2.2.2.2.2.2.1
theorem st_valid {T : zSt → zMs → Prop} (h : zSteps T) : ∀ (S : zSt) (M : zMs) (i_1 : Int32), T S M → zOk T [1] (fun y : (Int32 × zSt) => (y.1).toInt64) (fun y : (Int32 × zSt) => y.2) (fX9_valid S i_1) (fun b : Int32 => b.toInt64) (fX10_valid M i_1) := h.2.2.2.2.2.2.2.2.2.2.2.2.2.2.2.2.2.1
theorem st_logged {T : zSt → zMs → Prop} (h : zSteps T) : ∀ (S : zSt) (M : zMs) (i_1 : Int32), T S M → zOk T [1] (fun y : Int32 => (y).toInt64) (fun y : Int32 => S) (fX9_logged S i_1) (fun b : Int32 => b.toInt64) (fX10_logged M i_1) := h.2.2.2.2.2.2.2.2.2.2.2.2.2.2.2.2.2.2.1
theorem st_entryAt {T : zSt → zMs → Prop} (h : zSteps T) : ∀ (S : zSt) (M : zMs) (i_1 i_2 : Int32), T S M → zOk T [1] (fun y : Int64 => y) (fun y : Int64 => S) (fX9_entryAt S i_1 i_2) (fun b : Int64 => b) (fX10_entryAt M i_1 i_2) := h.2.2.2.2.2.2.2.2.2.2.2.2.2.2.2.2.2.2.2.1
theorem st_twin {T : zSt → zMs → Prop} (h : zSteps T) : ∀ (S : zSt) (M : zMs) (i_1 : Int32), T S M → zOk T [1] (fun y : Int32 => (y).toInt64) (fun y : Int32 => S) (fX9_twin S i_1) (fun b : Int32 => b.toInt64) (fX10_twin M i_1) := h.2.2.2.2.2.2.2.2.2.2.2.2.2.2.2.2.2.2.2.2.1
theorem st_high {T : zSt → zMs → Prop} (h : zSteps T) : ∀ (S : zSt) (M : zMs) (i_1 i_2 : Int32), T S M → zOk T [1, 2] (fun y : (Int32 × zSt) => (y.1).toInt64) (fun y : (Int32 × zSt) => y.2) (fX9_high S i_1 i_2) (fun b : Int32 => b.toInt64) (fX10_high M i_1 i_2) := h.2.2.2.2.2.2.2.2.2.2.2.2.2.2.2.2.2.2.2.2.2.1
theorem st_rob {T : zSt → zMs → Prop} (h : zSteps T) : ∀ (S : zSt) (M : zMs) (i_1 i_2 : Int32), T S M → zOk T [1, 2, 3] (fun y : (Int32 × zSt) => (y.1).toInt64) (fun y : (Int32 × zSt) => y.2) (fX9_rob S i_1 i_2) (fun b : Int32 => b.toInt64) (fX10_rob M i_1 i_2) := h.2.2.2.2.2.2.2.2.2.2.2.2.2.2.2.2.2.2.2.2.2.2.1
theorem st_box {T : zSt → zMs → Prop} (h : zSteps T) : ∀ (S : zSt) (M : zMs) (i_1 : Int32), T S M → zOk T [1] (fun y : Int32 => (y).toInt64) (fun y : Int32 => S) (fX9_box S i_1) (fun b : Int32 => b.toInt64) (fX10_box M i_1) := h.2.2.2.2.2.2.2.2.2.2.2.2.2.2.2.2.2.2.2.2.2.2.2.1
theorem st_missing {T : zSt → zMs → Prop} (h : zSteps T) : ∀ (S : zSt) (M : zMs) (i_1 : Int32), T S M → zOk T [1] (fun y : Int32 => (y).toInt64) (fun y : Int32 => S) (fX9_missing S i_1) (fun b : Int32 => b.toInt64) (fX10_missing M i_1) := h.2.2.2.2.2.2.2.2.2.2.2.2.2.2.2.2.2.2.2.2.2.2.2.2.1
theorem st_load {T : zSt → zMs → Prop} (h : zSteps T) : ∀ (S : zSt) (M : zMs) (i_1 i_2 i_3 : Int32), T S M → zOk T [1, 2, 3] (fun y : (Int32 × zSt) => (y.1).toInt64) (fun y : (Int32 × zSt) => y.2) (fX9_load S i_1 i_2 i_3) (fun b : Int32 => b.toInt64) (fX10_load_ M i_1 i_2 i_3) := h.2.2.2.2.2.2.2.2.2.2.2.2.2.2.2.2.2.2.2.2.2.2.2.2.2.1
theorem st_parts {T : zSt → zMs → Prop} (h : zSteps T) : ∀ (S : zSt) (M : zMs) (i_1 i_2 : Int32), T S M → zOk T [1, 2] (fun y : Int32 => (y).toInt64) (fun y : Int32 => S) (fX9_parts S i_1 i_2) (fun b : Int32 => b.toInt64) (fX10_parts M i_1 i_2) := h.2.2.2.2.2.2.2.2.2.2.2.2.2.2.2.2.2.2.2.2.2.2.2.2.2.2.1
theorem st_wanted {T : zSt → zMs → Prop} (h : zSteps T) : ∀ (S : zSt) (M : zMs) (i_1 : Int32), T S M → zOk T [2] (fun y : Int32 => (y).toInt64) (fun y : Int32 => S) (fX9_wanted S i_1) (fun b : Int32 => b.toInt64) (fX10_wanted M i_1) := h.2.2.2.2.2.2.2.2.2.2.2.2.2.2.2.2.2.2.2.2.2.2.2.2.2.2.2.1
theorem st_way {T : zSt → zMs → Prop} (h : zSteps T) : ∀ (S : zSt) (M : zMs) (i_1 : Int32), T S M → zOk T [1] (fun y : (Int32 × zSt) => (y.1).toInt64) (fun y : (Int32 × zSt) => y.2) (fX9_way S i_1) (fun b : Int32 => b.toInt64) (fX10_way M i_1) := h.2.2.2.2.2.2.2.2.2.2.2.2.2.2.2.2.2.2.2.2.2.2.2.2.2.2.2.2.1
theorem st_planned {T : zSt → zMs → Prop} (h : zSteps T) : ∀ (S : zSt) (M : zMs) (i_1 i_2 : Int32), T S M → zOk T [1] (fun y : (Int32 × zSt) => (y.1).toInt64) (fun y : (Int32 × zSt) => y.2) (fX9_planned S i_1 i_2) (fun b : Int32 => b.toInt64) (fX10_planned M i_1 i_2) := h.2.2.2.2.2.2.2.2.2.2.2.2.2.2.2.2.2.2.2.2.2.2.2.2.2.2.2.2.2.1
theorem st_go {T : zSt → zMs → Prop} (h : zSteps T) : ∀ (S : zSt) (M : zMs) (i_1 : Int32), T S M → zOk T [1, 3] (fun y : (Int32 × zSt) => (y.1).toInt64) (fun y : (Int32 × zSt) => y.2) (fX9_go S i_1) (fun b : Int32 => b.toInt64) (fX10_go M i_1) := h.2.2.2.2.2.2.2.2.2.2.2.2.2.2.2.2.2.2.2.2.2.2.2.2.2.2.2.2.2.2.1
theorem st_vanAt {T : zSt → zMs → Prop} (h : zSteps T) : ∀ (S : zSt) (M : zMs) (i_1 : Int32), T S M → zOk T [1] (fun y : Int32 => (y).toInt64) (fun y : Int32 => S) (fX9_vanAt S i_1) (fun b : Int32 => b.toInt64) (fX10_vanAt M i_1) := h.2.2.2.2.2.2.2.2.2.2.2.2.2.2.2.2.2.2.2.2.2.2.2.2.2.2.2.2.2.2.2

set_option maxHeartbeats 4000000 in
set_option maxRecDepth 100000 in
theorem lw_c0 {p : Program} {e : Env} {s : State} {m : MethodId} {below : List Frame} {meth : Method} {c : Code} {Q : State → Prop} (l : Launch) (hl0 : l.stackTraces = false) {Γ : zG} {T : zSt → zMs → Prop} (hT : zSteps T) {b L : Nat} {xs : Nat → Int32} (C0 : lwC p s m meth c Γ b L xs) {lo : zId → Nat} {S : zSt} {q : Nat → Nat} {M : zMs} {qo : Nat} {O : Nat → Int64} {iv : Int32} {cells slots : Nat} {H : Heap} {locs : List Loc} {ls : Array Slot} (hTT : T S M) (hW : Wd Γ lo S (mcl Γ q M ++ [zOut Γ qo O]) H) (hS : va_S (zA Γ) s.heap H locs) (hl : lv_has ls 8 (lwLv lo (q 0) qo b iv)) (hin : ∀ k : Int32, 0 ≤ k → k ≤ 5 → vp_in (iv + k) L) (hc : cells + 12 ≤ 601024) (hs : slots + 2700 ≤ 7293034) (kk : ∀ (lo1 : zId → Nat) (S1 : zSt) (M1 : zMs) (O1 : Nat → Int64) (H1 : Heap) (locs1 : List Loc) (ls1 : Array Slot), T S1 M1 → Wd Γ lo1 S1 (mcl Γ q M1 ++ [zOut Γ qo O1]) H1 → va_S (zA Γ) s.heap H1 locs1 → lv_has ls1 8 (lwLv lo1 (q 0) qo b iv) → W p l e room_1 s m #[Value.ref b] below meth c H1 locs1 (cells + 12) (slots + 2700) Q (F0 m 2131 ls1 [])) : W p l e room_1 s m #[Value.ref b] below meth c H locs cells slots Q (F0 m 180 ls []) := by
  obtain ⟨hx, hb, hml, hown, hts, hX, hbl, hbA, hB0, hKK, hKX, hKY, hKN⟩ := C0
  have v_z : zV S (10, 0, 0) = true := hT.1 _ _ hTT
  have hl : lv_has ls 8 [(4, .int iv), (3, .ref qo), (2, .ref (q 0)), (1, .ref (lo (10, 0, 0))), (0, .ref b)] := hl
  refine lv_aload_n hx hb dL_law_180 rfl (lv_at hl 3 rfl) ?_
  refine lv_aload_n hx hb dL_law_181 rfl (lv_at hl 4 rfl) ?_
  refine lv_iload hx hb dL_law_182 (lv_at hl 0 rfl) ?_
  refine lv_iconst (v := (1)) hx hb dL_law_184 (by decide) ?_
  refine lv_iadd hx hb dL_law_185 ?_
  refine va_sld hx hb hX hbl hbA hS (hin 1 (by decide) (by decide)) dL_law_186 ?_
  refine lv_aload_n hx hb dL_law_187 rfl (lv_at hl 4 rfl) ?_
  refine lv_iload hx hb dL_law_188 (lv_at hl 0 rfl) ?_
  refine lv_iconst (v := (2)) hx hb dL_law_190 (by decide) ?_
  refine lv_iadd hx hb dL_law_191 ?_
  refine va_sld hx hb hX hbl hbA hS (hin 2 (by decide) (by decide)) dL_law_192 ?_
  refine lv_aload_n hx hb dL_law_193 rfl (lv_at hl 1 rfl) ?_
  rcases st_addTable hT S M (xs (iv + 1).toNatClampNeg) (xs (iv + 2).toNatClampNeg) hTT with ⟨y, r, M1, h9, h10, hth, hfv, hT1⟩ | ⟨ee, r, M1, h9, h10, hn, hth, hT1⟩
  · dsimp only at hfv hT1
    refine w_call (As := [.ref (lo (10, 0, 0)), .int (xs (iv + 1).toNatClampNeg), .int (xs (iv + 2).toNatClampNeg), .ref qo]) (rest := []) ⟨hx, hb, hml, hown, hts⟩ (tL_addTable l Γ lo S (mcl Γ q M) qo O v_z h9) (vx_cwSW 4 hts gL_law_L_addTable rfl rfl rfl (by decide +kernel) ⟨Nat.le_of_ble_eq_true rfl, Nat.le_of_ble_eq_true rfl⟩) hKK hKX hKY hKN hW hS rfl hl.1 rfl (Nat.le_of_ble_eq_true rfl) dL_law_194 ⟨(by show cells + 6 ≤ 601024; omega), (by show slots + 89 ≤ 7293034; omega)⟩ (fun lo1 H locs hW hS h1 hmo _ => ?_)
    rw [← h1 _ v_z] at hl
    refine lv_istore (lv' := [(5, .int (0 : Int32)), (4, .int iv), (3, .ref qo), (2, .ref (q 0)), (1, .ref (lo1 (10, 0, 0))), (0, .ref b)]) hx hb dL_law_197 hl (by decide) rfl (fun ls hl => ?_)
    refine lv_aload_n hx hb dL_law_199 rfl (lv_at hl 3 rfl) ?_
    refine lv_aload_n hx hb dL_law_200 rfl (lv_at hl 5 rfl) ?_
    refine lv_iload hx hb dL_law_201 (lv_at hl 1 rfl) ?_
    refine lv_iconst (v := (1)) hx hb dL_law_203 (by decide) ?_
    refine lv_iadd hx hb dL_law_204 ?_
    refine va_sld hx hb hX hbl hbA hS (hin 1 (by decide) (by decide)) dL_law_205 ?_
    refine lv_aload_n hx hb dL_law_206 rfl (lv_at hl 5 rfl) ?_
    refine lv_iload hx hb dL_law_207 (lv_at hl 1 rfl) ?_
    refine lv_iconst (v := (2)) hx hb dL_law_209 (by decide) ?_
    refine lv_iadd hx hb dL_law_210 ?_
    refine va_sld hx hb hX hbl hbA hS (hin 2 (by decide) (by decide)) dL_law_211 ?_
    refine z_callV (As := [.int (xs (iv + 1).toNatClampNeg), .int (xs (iv + 2).toNatClampNeg)]) (rest := []) ⟨hx, hb, hml, hown, hts⟩ (tX10_addTable l Γ lo1 y.2 q M [zOut Γ qo (vp_updL O 0 (y.1).toInt64)] h10) (cwV 2 hts gL_law_X10_addTable rfl rfl rfl (by decide +kernel) ⟨Nat.le_of_ble_eq_true rfl, Nat.le_of_ble_eq_true rfl⟩) (wd_x hW (k := 0) rfl) rfl hKK hW hS rfl hl.1 rfl (Nat.le_of_ble_eq_true rfl) dL_law_212 ⟨(by show cells + 6 + 0 ≤ 601024; omega), (by show slots + 89 + 0 ≤ 7293034; omega)⟩ (fun H locs hW hS _ _ => ?_)
    refine lv_istore (lv' := [(6, .int r), (5, .int (0 : Int32)), (4, .int iv), (3, .ref qo), (2, .ref (q 0)), (1, .ref (lo1 (10, 0, 0))), (0, .ref b)]) hx hb dL_law_215 hl (by decide) rfl (fun ls hl => ?_)
    refine lv_aload_n hx hb dL_law_217 rfl (lv_at hl 4 rfl) ?_
    refine z_callV (As := []) (rest := []) ⟨hx, hb, hml, hown, hts⟩ (tX10_thrown l Γ lo1 y.2 q M1 [zOut Γ qo (vp_updL O 0 (y.1).toInt64)] (show fX10_thrown M1 = some (M1 0 0) from rfl)) (cwV 0 hts gL_law_X10_thrown rfl rfl rfl (by decide +kernel) ⟨Nat.le_of_ble_eq_true rfl, Nat.le_of_ble_eq_true rfl⟩) (wd_x hW (k := 0) rfl) rfl hKK hW hS rfl hl.1 rfl (Nat.le_of_ble_eq_true rfl) dL_law_218 ⟨(by show cells + 6 + 0 + 0 ≤ 601024; omega), (by show slots + 89 + 0 + 0 ≤ 7293034; omega)⟩ (fun H locs hW hS _ _ => ?_)
    refine lv_iload hx hb dL_law_221 (lv_at hl 1 rfl) ?_
    refine lv_icmp_eq (tgt := 228) hx hb dL_law_223 (by decide) (fun _ => ?_) (fun k => absurd hth k)
    refine lv_iload hx hb dL_law_228 (lv_at hl 1 rfl) ?_
    refine lv_if_ne (tgt := 245) hx hb dL_law_230 (by decide) (fun k => absurd rfl k) (fun _ => ?_)
    refine lv_aload_n hx hb dL_law_233 rfl (lv_at hl 3 rfl) ?_
    refine lv_iconst (v := (0)) hx hb dL_law_234 (by decide) ?_
    refine va_lald hx hb hKK.1 (wd_x hW (k := 47) rfl) 0 1 (n := 1) rfl rfl (by unfold vp_in; decide) dL_law_235 ?_
    rw [show vp_updL O 0 (y.1).toInt64 (0 : Int32).toNatClampNeg = (y.1).toInt64 from rfl, hfv]
    refine lv_iload hx hb dL_law_236 (lv_at hl 0 rfl) ?_
    refine lv_i2l hx hb dL_law_238 rfl ?_
    refine W.lcmp hx hb dL_law_239 ?_
    rw [lg_same]
    refine lv_if_eq (tgt := 245) hx hb dL_law_240 (by decide) (fun _ => ?_) (fun k => absurd rfl k)
    refine lv_goto (tgt := 2131) hx hb dL_law_245 (by decide) ?_
    refine W.widen (k := cells + 12) (n := slots + 2700) (by omega) (by omega) ?_
    exact kk lo1 y.2 M1 (vp_updL O 0 (y.1).toInt64) H locs ls hT1 hW hS (lv_sub hl [2, 3, 4, 5, 6] rfl)
  · skip
    refine w_call (As := [.ref (lo (10, 0, 0)), .int (xs (iv + 1).toNatClampNeg), .int (xs (iv + 2).toNatClampNeg), .ref qo]) (rest := []) ⟨hx, hb, hml, hown, hts⟩ (uL_addTable l hl0 Γ lo S (mcl Γ q M) qo O v_z h9 (by simpa using hn)) (vx_cwSW 4 hts gL_law_L_addTable rfl rfl rfl (by decide +kernel) ⟨Nat.le_of_ble_eq_true rfl, Nat.le_of_ble_eq_true rfl⟩) hKK hKX hKY hKN hW hS rfl hl.1 rfl (Nat.le_of_ble_eq_true rfl) dL_law_194 ⟨(by show cells + 6 ≤ 601024; omega), (by show slots + 89 ≤ 7293034; omega)⟩ (fun lo1 H locs hW hS h1 hmo _ => ?_)
    rw [← h1 _ v_z] at hl
    refine lv_istore (lv' := [(5, .int (kL [2, 3] ee.1)), (4, .int iv), (3, .ref qo), (2, .ref (q 0)), (1, .ref (lo1 (10, 0, 0))), (0, .ref b)]) hx hb dL_law_197 hl (by decide) rfl (fun ls hl => ?_)
    refine lv_aload_n hx hb dL_law_199 rfl (lv_at hl 3 rfl) ?_
    refine lv_aload_n hx hb dL_law_200 rfl (lv_at hl 5 rfl) ?_
    refine lv_iload hx hb dL_law_201 (lv_at hl 1 rfl) ?_
    refine lv_iconst (v := (1)) hx hb dL_law_203 (by decide) ?_
    refine lv_iadd hx hb dL_law_204 ?_
    refine va_sld hx hb hX hbl hbA hS (hin 1 (by decide) (by decide)) dL_law_205 ?_
    refine lv_aload_n hx hb dL_law_206 rfl (lv_at hl 5 rfl) ?_
    refine lv_iload hx hb dL_law_207 (lv_at hl 1 rfl) ?_
    refine lv_iconst (v := (2)) hx hb dL_law_209 (by decide) ?_
    refine lv_iadd hx hb dL_law_210 ?_
    refine va_sld hx hb hX hbl hbA hS (hin 2 (by decide) (by decide)) dL_law_211 ?_
    refine z_callV (As := [.int (xs (iv + 1).toNatClampNeg), .int (xs (iv + 2).toNatClampNeg)]) (rest := []) ⟨hx, hb, hml, hown, hts⟩ (tX10_addTable l Γ lo1 ee.2 q M [zOut Γ qo O] h10) (cwV 2 hts gL_law_X10_addTable rfl rfl rfl (by decide +kernel) ⟨Nat.le_of_ble_eq_true rfl, Nat.le_of_ble_eq_true rfl⟩) (wd_x hW (k := 0) rfl) rfl hKK hW hS rfl hl.1 rfl (Nat.le_of_ble_eq_true rfl) dL_law_212 ⟨(by show cells + 6 + 0 ≤ 601024; omega), (by show slots + 89 + 0 ≤ 7293034; omega)⟩ (fun H locs hW hS _ _ => ?_)
    refine lv_istore (lv' := [(6, .int r), (5, .int (kL [2, 3] ee.1)), (4, .int iv), (3, .ref qo), (2, .ref (q 0)), (1, .ref (lo1 (10, 0, 0))), (0, .ref b)]) hx hb dL_law_215 hl (by decide) rfl (fun ls hl => ?_)
    refine lv_aload_n hx hb dL_law_217 rfl (lv_at hl 4 rfl) ?_
    refine z_callV (As := []) (rest := []) ⟨hx, hb, hml, hown, hts⟩ (tX10_thrown l Γ lo1 ee.2 q M1 [zOut Γ qo O] (show fX10_thrown M1 = some (M1 0 0) from rfl)) (cwV 0 hts gL_law_X10_thrown rfl rfl rfl (by decide +kernel) ⟨Nat.le_of_ble_eq_true rfl, Nat.le_of_ble_eq_true rfl⟩) (wd_x hW (k := 0) rfl) rfl hKK hW hS rfl hl.1 rfl (Nat.le_of_ble_eq_true rfl) dL_law_218 ⟨(by show cells + 6 + 0 + 0 ≤ 601024; omega), (by show slots + 89 + 0 + 0 ≤ 7293034; omega)⟩ (fun H locs hW hS _ _ => ?_)
    refine lv_iload hx hb dL_law_221 (lv_at hl 1 rfl) ?_
    refine lv_icmp_eq (tgt := 228) hx hb dL_law_223 (by decide) (fun _ => ?_) (fun k => absurd hth k)
    refine lv_iload hx hb dL_law_228 (lv_at hl 1 rfl) ?_
    refine lv_if_ne (tgt := 245) hx hb dL_law_230 (by decide) (fun _ => ?_) (fun k => absurd k (kL_ne _ _ hn (Nat.le_of_ble_eq_true rfl)))
    refine lv_goto (tgt := 2131) hx hb dL_law_245 (by decide) ?_
    refine W.widen (k := cells + 12) (n := slots + 2700) (by omega) (by omega) ?_
    exact kk lo1 ee.2 M1 O H locs ls hT1 hW hS (lv_sub hl [2, 3, 4, 5, 6] rfl)

set_option maxHeartbeats 4000000 in
set_option maxRecDepth 100000 in
theorem lw_c1 {p : Program} {e : Env} {s : State} {m : MethodId} {below : List Frame} {meth : Method} {c : Code} {Q : State → Prop} (l : Launch) (hl0 : l.stackTraces = false) {Γ : zG} {T : zSt → zMs → Prop} (hT : zSteps T) {b L : Nat} {xs : Nat → Int32} (C0 : lwC p s m meth c Γ b L xs) {lo : zId → Nat} {S : zSt} {q : Nat → Nat} {M : zMs} {qo : Nat} {O : Nat → Int64} {iv : Int32} {cells slots : Nat} {H : Heap} {locs : List Loc} {ls : Array Slot} (hTT : T S M) (hW : Wd Γ lo S (mcl Γ q M ++ [zOut Γ qo O]) H) (hS : va_S (zA Γ) s.heap H locs) (hl : lv_has ls 8 (lwLv lo (q 0) qo b iv)) (hin : ∀ k : Int32, 0 ≤ k → k ≤ 5 → vp_in (iv + k) L) (hc : cells + 12 ≤ 601024) (hs : slots + 2700 ≤ 7293034) (kk : ∀ (lo1 : zId → Nat) (S1 : zSt) (M1 : zMs) (O1 : Nat → Int64) (H1 : Heap) (locs1 : List Loc) (ls1 : Array Slot), T S1 M1 → Wd Γ lo1 S1 (mcl Γ q M1 ++ [zOut Γ qo O1]) H1 → va_S (zA Γ) s.heap H1 locs1 → lv_has ls1 8 (lwLv lo1 (q 0) qo b iv) → W p l e room_1 s m #[Value.ref b] below meth c H1 locs1 (cells + 12) (slots + 2700) Q (F0 m 2131 ls1 [])) : W p l e room_1 s m #[Value.ref b] below meth c H locs cells slots Q (F0 m 248 ls []) := by
  obtain ⟨hx, hb, hml, hown, hts, hX, hbl, hbA, hB0, hKK, hKX, hKY, hKN⟩ := C0
  have v_z : zV S (10, 0, 0) = true := hT.1 _ _ hTT
  have hl : lv_has ls 8 [(4, .int iv), (3, .ref qo), (2, .ref (q 0)), (1, .ref (lo (10, 0, 0))), (0, .ref b)] := hl
  refine lv_aload_n hx hb dL_law_248 rfl (lv_at hl 3 rfl) ?_
  refine lv_aload_n hx hb dL_law_249 rfl (lv_at hl 4 rfl) ?_
  refine lv_iload hx hb dL_law_250 (lv_at hl 0 rfl) ?_
  refine lv_iconst (v := (1)) hx hb dL_law_252 (by decide) ?_
  refine lv_iadd hx hb dL_law_253 ?_
  refine va_sld hx hb hX hbl hbA hS (hin 1 (by decide) (by decide)) dL_law_254 ?_
  refine lv_aload_n hx hb dL_law_255 rfl (lv_at hl 4 rfl) ?_
  refine lv_iload hx hb dL_law_256 (lv_at hl 0 rfl) ?_
  refine lv_iconst (v := (2)) hx hb dL_law_258 (by decide) ?_
  refine lv_iadd hx hb dL_law_259 ?_
  refine va_sld hx hb hX hbl hbA hS (hin 2 (by decide) (by decide)) dL_law_260 ?_
  refine lv_aload_n hx hb dL_law_261 rfl (lv_at hl 4 rfl) ?_
  refine lv_iload hx hb dL_law_262 (lv_at hl 0 rfl) ?_
  refine lv_iconst (v := (3)) hx hb dL_law_264 (by decide) ?_
  refine lv_iadd hx hb dL_law_265 ?_
  refine va_sld hx hb hX hbl hbA hS (hin 3 (by decide) (by decide)) dL_law_266 ?_
  refine lv_aload_n hx hb dL_law_267 rfl (lv_at hl 4 rfl) ?_
  refine lv_iload hx hb dL_law_268 (lv_at hl 0 rfl) ?_
  refine lv_iconst (v := (4)) hx hb dL_law_270 (by decide) ?_
  refine lv_iadd hx hb dL_law_271 ?_
  refine va_sld hx hb hX hbl hbA hS (hin 4 (by decide) (by decide)) dL_law_272 ?_
  refine lv_aload_n hx hb dL_law_273 rfl (lv_at hl 4 rfl) ?_
  refine lv_iload hx hb dL_law_274 (lv_at hl 0 rfl) ?_
  refine lv_iconst (v := (5)) hx hb dL_law_276 (by decide) ?_
  refine lv_iadd hx hb dL_law_277 ?_
  refine va_sld hx hb hX hbl hbA hS (hin 5 (by decide) (by decide)) dL_law_278 ?_
  refine lv_aload_n hx hb dL_law_279 rfl (lv_at hl 1 rfl) ?_
  rcases st_addBumper hT S M (xs (iv + 1).toNatClampNeg) (xs (iv + 2).toNatClampNeg) (xs (iv + 3).toNatClampNeg) (xs (iv + 4).toNatClampNeg) (xs (iv + 5).toNatClampNeg) hTT with ⟨y, r, M1, h9, h10, hth, hfv, hT1⟩ | ⟨ee, r, M1, h9, h10, hn, hth, hT1⟩
  · dsimp only at hfv hT1
    refine w_call (As := [.ref (lo (10, 0, 0)), .int (xs (iv + 1).toNatClampNeg), .int (xs (iv + 2).toNatClampNeg), .int (xs (iv + 3).toNatClampNeg), .int (xs (iv + 4).toNatClampNeg), .int (xs (iv + 5).toNatClampNeg), .ref qo]) (rest := []) ⟨hx, hb, hml, hown, hts⟩ (tL_addBumper l Γ lo S (mcl Γ q M) qo O v_z h9) (vx_cwSW 7 hts gL_law_L_addBumper rfl rfl rfl (by decide +kernel) ⟨Nat.le_of_ble_eq_true rfl, Nat.le_of_ble_eq_true rfl⟩) hKK hKX hKY hKN hW hS rfl hl.1 rfl (Nat.le_of_ble_eq_true rfl) dL_law_280 ⟨(by show cells + 2 ≤ 601024; omega), (by show slots + 71 ≤ 7293034; omega)⟩ (fun lo1 H locs hW hS h1 hmo _ => ?_)
    rw [← h1 _ v_z] at hl
    refine lv_istore (lv' := [(5, .int (0 : Int32)), (4, .int iv), (3, .ref qo), (2, .ref (q 0)), (1, .ref (lo1 (10, 0, 0))), (0, .ref b)]) hx hb dL_law_283 hl (by decide) rfl (fun ls hl => ?_)
    refine lv_aload_n hx hb dL_law_285 rfl (lv_at hl 3 rfl) ?_
    refine lv_aload_n hx hb dL_law_286 rfl (lv_at hl 5 rfl) ?_
    refine lv_iload hx hb dL_law_287 (lv_at hl 1 rfl) ?_
    refine lv_iconst (v := (1)) hx hb dL_law_289 (by decide) ?_
    refine lv_iadd hx hb dL_law_290 ?_
    refine va_sld hx hb hX hbl hbA hS (hin 1 (by decide) (by decide)) dL_law_291 ?_
    refine lv_aload_n hx hb dL_law_292 rfl (lv_at hl 5 rfl) ?_
    refine lv_iload hx hb dL_law_293 (lv_at hl 1 rfl) ?_
    refine lv_iconst (v := (2)) hx hb dL_law_295 (by decide) ?_
    refine lv_iadd hx hb dL_law_296 ?_
    refine va_sld hx hb hX hbl hbA hS (hin 2 (by decide) (by decide)) dL_law_297 ?_
    refine lv_aload_n hx hb dL_law_298 rfl (lv_at hl 5 rfl) ?_
    refine lv_iload hx hb dL_law_299 (lv_at hl 1 rfl) ?_
    refine lv_iconst (v := (3)) hx hb dL_law_301 (by decide) ?_
    refine lv_iadd hx hb dL_law_302 ?_
    refine va_sld hx hb hX hbl hbA hS (hin 3 (by decide) (by decide)) dL_law_303 ?_
    refine lv_aload_n hx hb dL_law_304 rfl (lv_at hl 5 rfl) ?_
    refine lv_iload hx hb dL_law_305 (lv_at hl 1 rfl) ?_
    refine lv_iconst (v := (4)) hx hb dL_law_307 (by decide) ?_
    refine lv_iadd hx hb dL_law_308 ?_
    refine va_sld hx hb hX hbl hbA hS (hin 4 (by decide) (by decide)) dL_law_309 ?_
    refine lv_aload_n hx hb dL_law_310 rfl (lv_at hl 5 rfl) ?_
    refine lv_iload hx hb dL_law_311 (lv_at hl 1 rfl) ?_
    refine lv_iconst (v := (5)) hx hb dL_law_313 (by decide) ?_
    refine lv_iadd hx hb dL_law_314 ?_
    refine va_sld hx hb hX hbl hbA hS (hin 5 (by decide) (by decide)) dL_law_315 ?_
    refine z_callV (As := [.int (xs (iv + 1).toNatClampNeg), .int (xs (iv + 2).toNatClampNeg), .int (xs (iv + 3).toNatClampNeg), .int (xs (iv + 4).toNatClampNeg), .int (xs (iv + 5).toNatClampNeg)]) (rest := []) ⟨hx, hb, hml, hown, hts⟩ (tX10_addBumper l Γ lo1 y.2 q M [zOut Γ qo (vp_updL O 0 (y.1).toInt64)] h10) (cwV 5 hts gL_law_X10_addBumper rfl rfl rfl (by decide +kernel) ⟨Nat.le_of_ble_eq_true rfl, Nat.le_of_ble_eq_true rfl⟩) (wd_x hW (k := 0) rfl) rfl hKK hW hS rfl hl.1 rfl (Nat.le_of_ble_eq_true rfl) dL_law_316 ⟨(by show cells + 2 + 0 ≤ 601024; omega), (by show slots + 71 + 0 ≤ 7293034; omega)⟩ (fun H locs hW hS _ _ => ?_)
    refine lv_istore (lv' := [(6, .int r), (5, .int (0 : Int32)), (4, .int iv), (3, .ref qo), (2, .ref (q 0)), (1, .ref (lo1 (10, 0, 0))), (0, .ref b)]) hx hb dL_law_319 hl (by decide) rfl (fun ls hl => ?_)
    refine lv_aload_n hx hb dL_law_321 rfl (lv_at hl 4 rfl) ?_
    refine z_callV (As := []) (rest := []) ⟨hx, hb, hml, hown, hts⟩ (tX10_thrown l Γ lo1 y.2 q M1 [zOut Γ qo (vp_updL O 0 (y.1).toInt64)] (show fX10_thrown M1 = some (M1 0 0) from rfl)) (cwV 0 hts gL_law_X10_thrown rfl rfl rfl (by decide +kernel) ⟨Nat.le_of_ble_eq_true rfl, Nat.le_of_ble_eq_true rfl⟩) (wd_x hW (k := 0) rfl) rfl hKK hW hS rfl hl.1 rfl (Nat.le_of_ble_eq_true rfl) dL_law_322 ⟨(by show cells + 2 + 0 + 0 ≤ 601024; omega), (by show slots + 71 + 0 + 0 ≤ 7293034; omega)⟩ (fun H locs hW hS _ _ => ?_)
    refine lv_iload hx hb dL_law_325 (lv_at hl 1 rfl) ?_
    refine lv_icmp_eq (tgt := 332) hx hb dL_law_327 (by decide) (fun _ => ?_) (fun k => absurd hth k)
    refine lv_iload hx hb dL_law_332 (lv_at hl 1 rfl) ?_
    refine lv_if_ne (tgt := 349) hx hb dL_law_334 (by decide) (fun k => absurd rfl k) (fun _ => ?_)
    refine lv_aload_n hx hb dL_law_337 rfl (lv_at hl 3 rfl) ?_
    refine lv_iconst (v := (0)) hx hb dL_law_338 (by decide) ?_
    refine va_lald hx hb hKK.1 (wd_x hW (k := 47) rfl) 0 1 (n := 1) rfl rfl (by unfold vp_in; decide) dL_law_339 ?_
    rw [show vp_updL O 0 (y.1).toInt64 (0 : Int32).toNatClampNeg = (y.1).toInt64 from rfl, hfv]
    refine lv_iload hx hb dL_law_340 (lv_at hl 0 rfl) ?_
    refine lv_i2l hx hb dL_law_342 rfl ?_
    refine W.lcmp hx hb dL_law_343 ?_
    rw [lg_same]
    refine lv_if_eq (tgt := 349) hx hb dL_law_344 (by decide) (fun _ => ?_) (fun k => absurd rfl k)
    refine lv_goto (tgt := 2131) hx hb dL_law_349 (by decide) ?_
    refine W.widen (k := cells + 12) (n := slots + 2700) (by omega) (by omega) ?_
    exact kk lo1 y.2 M1 (vp_updL O 0 (y.1).toInt64) H locs ls hT1 hW hS (lv_sub hl [2, 3, 4, 5, 6] rfl)
  · skip
    refine w_call (As := [.ref (lo (10, 0, 0)), .int (xs (iv + 1).toNatClampNeg), .int (xs (iv + 2).toNatClampNeg), .int (xs (iv + 3).toNatClampNeg), .int (xs (iv + 4).toNatClampNeg), .int (xs (iv + 5).toNatClampNeg), .ref qo]) (rest := []) ⟨hx, hb, hml, hown, hts⟩ (uL_addBumper l hl0 Γ lo S (mcl Γ q M) qo O v_z h9 (by simpa using hn)) (vx_cwSW 7 hts gL_law_L_addBumper rfl rfl rfl (by decide +kernel) ⟨Nat.le_of_ble_eq_true rfl, Nat.le_of_ble_eq_true rfl⟩) hKK hKX hKY hKN hW hS rfl hl.1 rfl (Nat.le_of_ble_eq_true rfl) dL_law_280 ⟨(by show cells + 2 ≤ 601024; omega), (by show slots + 71 ≤ 7293034; omega)⟩ (fun lo1 H locs hW hS h1 hmo _ => ?_)
    rw [← h1 _ v_z] at hl
    refine lv_istore (lv' := [(5, .int (kL [1, 2, 3] ee.1)), (4, .int iv), (3, .ref qo), (2, .ref (q 0)), (1, .ref (lo1 (10, 0, 0))), (0, .ref b)]) hx hb dL_law_283 hl (by decide) rfl (fun ls hl => ?_)
    refine lv_aload_n hx hb dL_law_285 rfl (lv_at hl 3 rfl) ?_
    refine lv_aload_n hx hb dL_law_286 rfl (lv_at hl 5 rfl) ?_
    refine lv_iload hx hb dL_law_287 (lv_at hl 1 rfl) ?_
    refine lv_iconst (v := (1)) hx hb dL_law_289 (by decide) ?_
    refine lv_iadd hx hb dL_law_290 ?_
    refine va_sld hx hb hX hbl hbA hS (hin 1 (by decide) (by decide)) dL_law_291 ?_
    refine lv_aload_n hx hb dL_law_292 rfl (lv_at hl 5 rfl) ?_
    refine lv_iload hx hb dL_law_293 (lv_at hl 1 rfl) ?_
    refine lv_iconst (v := (2)) hx hb dL_law_295 (by decide) ?_
    refine lv_iadd hx hb dL_law_296 ?_
    refine va_sld hx hb hX hbl hbA hS (hin 2 (by decide) (by decide)) dL_law_297 ?_
    refine lv_aload_n hx hb dL_law_298 rfl (lv_at hl 5 rfl) ?_
    refine lv_iload hx hb dL_law_299 (lv_at hl 1 rfl) ?_
    refine lv_iconst (v := (3)) hx hb dL_law_301 (by decide) ?_
    refine lv_iadd hx hb dL_law_302 ?_
    refine va_sld hx hb hX hbl hbA hS (hin 3 (by decide) (by decide)) dL_law_303 ?_
    refine lv_aload_n hx hb dL_law_304 rfl (lv_at hl 5 rfl) ?_
    refine lv_iload hx hb dL_law_305 (lv_at hl 1 rfl) ?_
    refine lv_iconst (v := (4)) hx hb dL_law_307 (by decide) ?_
    refine lv_iadd hx hb dL_law_308 ?_
    refine va_sld hx hb hX hbl hbA hS (hin 4 (by decide) (by decide)) dL_law_309 ?_
    refine lv_aload_n hx hb dL_law_310 rfl (lv_at hl 5 rfl) ?_
    refine lv_iload hx hb dL_law_311 (lv_at hl 1 rfl) ?_
    refine lv_iconst (v := (5)) hx hb dL_law_313 (by decide) ?_
    refine lv_iadd hx hb dL_law_314 ?_
    refine va_sld hx hb hX hbl hbA hS (hin 5 (by decide) (by decide)) dL_law_315 ?_
    refine z_callV (As := [.int (xs (iv + 1).toNatClampNeg), .int (xs (iv + 2).toNatClampNeg), .int (xs (iv + 3).toNatClampNeg), .int (xs (iv + 4).toNatClampNeg), .int (xs (iv + 5).toNatClampNeg)]) (rest := []) ⟨hx, hb, hml, hown, hts⟩ (tX10_addBumper l Γ lo1 ee.2 q M [zOut Γ qo O] h10) (cwV 5 hts gL_law_X10_addBumper rfl rfl rfl (by decide +kernel) ⟨Nat.le_of_ble_eq_true rfl, Nat.le_of_ble_eq_true rfl⟩) (wd_x hW (k := 0) rfl) rfl hKK hW hS rfl hl.1 rfl (Nat.le_of_ble_eq_true rfl) dL_law_316 ⟨(by show cells + 2 + 0 ≤ 601024; omega), (by show slots + 71 + 0 ≤ 7293034; omega)⟩ (fun H locs hW hS _ _ => ?_)
    refine lv_istore (lv' := [(6, .int r), (5, .int (kL [1, 2, 3] ee.1)), (4, .int iv), (3, .ref qo), (2, .ref (q 0)), (1, .ref (lo1 (10, 0, 0))), (0, .ref b)]) hx hb dL_law_319 hl (by decide) rfl (fun ls hl => ?_)
    refine lv_aload_n hx hb dL_law_321 rfl (lv_at hl 4 rfl) ?_
    refine z_callV (As := []) (rest := []) ⟨hx, hb, hml, hown, hts⟩ (tX10_thrown l Γ lo1 ee.2 q M1 [zOut Γ qo O] (show fX10_thrown M1 = some (M1 0 0) from rfl)) (cwV 0 hts gL_law_X10_thrown rfl rfl rfl (by decide +kernel) ⟨Nat.le_of_ble_eq_true rfl, Nat.le_of_ble_eq_true rfl⟩) (wd_x hW (k := 0) rfl) rfl hKK hW hS rfl hl.1 rfl (Nat.le_of_ble_eq_true rfl) dL_law_322 ⟨(by show cells + 2 + 0 + 0 ≤ 601024; omega), (by show slots + 71 + 0 + 0 ≤ 7293034; omega)⟩ (fun H locs hW hS _ _ => ?_)
    refine lv_iload hx hb dL_law_325 (lv_at hl 1 rfl) ?_
    refine lv_icmp_eq (tgt := 332) hx hb dL_law_327 (by decide) (fun _ => ?_) (fun k => absurd hth k)
    refine lv_iload hx hb dL_law_332 (lv_at hl 1 rfl) ?_
    refine lv_if_ne (tgt := 349) hx hb dL_law_334 (by decide) (fun _ => ?_) (fun k => absurd k (kL_ne _ _ hn (Nat.le_of_ble_eq_true rfl)))
    refine lv_goto (tgt := 2131) hx hb dL_law_349 (by decide) ?_
    refine W.widen (k := cells + 12) (n := slots + 2700) (by omega) (by omega) ?_
    exact kk lo1 ee.2 M1 O H locs ls hT1 hW hS (lv_sub hl [2, 3, 4, 5, 6] rfl)

set_option maxHeartbeats 4000000 in
set_option maxRecDepth 100000 in
theorem lw_c2 {p : Program} {e : Env} {s : State} {m : MethodId} {below : List Frame} {meth : Method} {c : Code} {Q : State → Prop} (l : Launch) (hl0 : l.stackTraces = false) {Γ : zG} {T : zSt → zMs → Prop} (hT : zSteps T) {b L : Nat} {xs : Nat → Int32} (C0 : lwC p s m meth c Γ b L xs) {lo : zId → Nat} {S : zSt} {q : Nat → Nat} {M : zMs} {qo : Nat} {O : Nat → Int64} {iv : Int32} {cells slots : Nat} {H : Heap} {locs : List Loc} {ls : Array Slot} (hTT : T S M) (hW : Wd Γ lo S (mcl Γ q M ++ [zOut Γ qo O]) H) (hS : va_S (zA Γ) s.heap H locs) (hl : lv_has ls 8 (lwLv lo (q 0) qo b iv)) (hin : ∀ k : Int32, 0 ≤ k → k ≤ 5 → vp_in (iv + k) L) (hc : cells + 12 ≤ 601024) (hs : slots + 2700 ≤ 7293034) (kk : ∀ (lo1 : zId → Nat) (S1 : zSt) (M1 : zMs) (O1 : Nat → Int64) (H1 : Heap) (locs1 : List Loc) (ls1 : Array Slot), T S1 M1 → Wd Γ lo1 S1 (mcl Γ q M1 ++ [zOut Γ qo O1]) H1 → va_S (zA Γ) s.heap H1 locs1 → lv_has ls1 8 (lwLv lo1 (q 0) qo b iv) → W p l e room_1 s m #[Value.ref b] below meth c H1 locs1 (cells + 12) (slots + 2700) Q (F0 m 2131 ls1 [])) : W p l e room_1 s m #[Value.ref b] below meth c H locs cells slots Q (F0 m 352 ls []) := by
  obtain ⟨hx, hb, hml, hown, hts, hX, hbl, hbA, hB0, hKK, hKX, hKY, hKN⟩ := C0
  have v_z : zV S (10, 0, 0) = true := hT.1 _ _ hTT
  have hl : lv_has ls 8 [(4, .int iv), (3, .ref qo), (2, .ref (q 0)), (1, .ref (lo (10, 0, 0))), (0, .ref b)] := hl
  refine lv_aload_n hx hb dL_law_352 rfl (lv_at hl 3 rfl) ?_
  refine lv_aload_n hx hb dL_law_353 rfl (lv_at hl 4 rfl) ?_
  refine lv_iload hx hb dL_law_354 (lv_at hl 0 rfl) ?_
  refine lv_iconst (v := (1)) hx hb dL_law_356 (by decide) ?_
  refine lv_iadd hx hb dL_law_357 ?_
  refine va_sld hx hb hX hbl hbA hS (hin 1 (by decide) (by decide)) dL_law_358 ?_
  refine lv_aload_n hx hb dL_law_359 rfl (lv_at hl 4 rfl) ?_
  refine lv_iload hx hb dL_law_360 (lv_at hl 0 rfl) ?_
  refine lv_iconst (v := (2)) hx hb dL_law_362 (by decide) ?_
  refine lv_iadd hx hb dL_law_363 ?_
  refine va_sld hx hb hX hbl hbA hS (hin 2 (by decide) (by decide)) dL_law_364 ?_
  refine lv_aload_n hx hb dL_law_365 rfl (lv_at hl 4 rfl) ?_
  refine lv_iload hx hb dL_law_366 (lv_at hl 0 rfl) ?_
  refine lv_iconst (v := (3)) hx hb dL_law_368 (by decide) ?_
  refine lv_iadd hx hb dL_law_369 ?_
  refine va_sld hx hb hX hbl hbA hS (hin 3 (by decide) (by decide)) dL_law_370 ?_
  refine lv_aload_n hx hb dL_law_371 rfl (lv_at hl 1 rfl) ?_
  rcases st_setPoints hT S M (xs (iv + 1).toNatClampNeg) (xs (iv + 2).toNatClampNeg) (xs (iv + 3).toNatClampNeg) hTT with ⟨y, r, M1, h9, h10, hth, hfv, hT1⟩ | ⟨ee, r, M1, h9, h10, hn, hth, hT1⟩
  · dsimp only at hfv hT1
    refine w_call (As := [.ref (lo (10, 0, 0)), .int (xs (iv + 1).toNatClampNeg), .int (xs (iv + 2).toNatClampNeg), .int (xs (iv + 3).toNatClampNeg), .ref qo]) (rest := []) ⟨hx, hb, hml, hown, hts⟩ (tL_setPoints l Γ lo S (mcl Γ q M) qo O v_z h9) (vx_cwSW 5 hts gL_law_L_setPoints rfl rfl rfl (by decide +kernel) ⟨Nat.le_of_ble_eq_true rfl, Nat.le_of_ble_eq_true rfl⟩) hKK hKX hKY hKN hW hS rfl hl.1 rfl (Nat.le_of_ble_eq_true rfl) dL_law_372 ⟨(by show cells + 1 ≤ 601024; omega), (by show slots + 6 ≤ 7293034; omega)⟩ (fun lo1 H locs hW hS h1 hmo _ => ?_)
    rw [← h1 _ v_z] at hl
    refine lv_istore (lv' := [(5, .int (0 : Int32)), (4, .int iv), (3, .ref qo), (2, .ref (q 0)), (1, .ref (lo1 (10, 0, 0))), (0, .ref b)]) hx hb dL_law_375 hl (by decide) rfl (fun ls hl => ?_)
    refine lv_aload_n hx hb dL_law_377 rfl (lv_at hl 3 rfl) ?_
    refine lv_aload_n hx hb dL_law_378 rfl (lv_at hl 5 rfl) ?_
    refine lv_iload hx hb dL_law_379 (lv_at hl 1 rfl) ?_
    refine lv_iconst (v := (1)) hx hb dL_law_381 (by decide) ?_
    refine lv_iadd hx hb dL_law_382 ?_
    refine va_sld hx hb hX hbl hbA hS (hin 1 (by decide) (by decide)) dL_law_383 ?_
    refine lv_aload_n hx hb dL_law_384 rfl (lv_at hl 5 rfl) ?_
    refine lv_iload hx hb dL_law_385 (lv_at hl 1 rfl) ?_
    refine lv_iconst (v := (2)) hx hb dL_law_387 (by decide) ?_
    refine lv_iadd hx hb dL_law_388 ?_
    refine va_sld hx hb hX hbl hbA hS (hin 2 (by decide) (by decide)) dL_law_389 ?_
    refine lv_aload_n hx hb dL_law_390 rfl (lv_at hl 5 rfl) ?_
    refine lv_iload hx hb dL_law_391 (lv_at hl 1 rfl) ?_
    refine lv_iconst (v := (3)) hx hb dL_law_393 (by decide) ?_
    refine lv_iadd hx hb dL_law_394 ?_
    refine va_sld hx hb hX hbl hbA hS (hin 3 (by decide) (by decide)) dL_law_395 ?_
    refine z_callV (As := [.int (xs (iv + 1).toNatClampNeg), .int (xs (iv + 2).toNatClampNeg), .int (xs (iv + 3).toNatClampNeg)]) (rest := []) ⟨hx, hb, hml, hown, hts⟩ (tX10_setPoints l Γ lo1 y.2 q M [zOut Γ qo (vp_updL O 0 (y.1).toInt64)] h10) (cwV 3 hts gL_law_X10_setPoints rfl rfl rfl (by decide +kernel) ⟨Nat.le_of_ble_eq_true rfl, Nat.le_of_ble_eq_true rfl⟩) (wd_x hW (k := 0) rfl) rfl hKK hW hS rfl hl.1 rfl (Nat.le_of_ble_eq_true rfl) dL_law_396 ⟨(by show cells + 1 + 0 ≤ 601024; omega), (by show slots + 6 + 0 ≤ 7293034; omega)⟩ (fun H locs hW hS _ _ => ?_)
    refine lv_istore (lv' := [(6, .int r), (5, .int (0 : Int32)), (4, .int iv), (3, .ref qo), (2, .ref (q 0)), (1, .ref (lo1 (10, 0, 0))), (0, .ref b)]) hx hb dL_law_399 hl (by decide) rfl (fun ls hl => ?_)
    refine lv_aload_n hx hb dL_law_401 rfl (lv_at hl 4 rfl) ?_
    refine z_callV (As := []) (rest := []) ⟨hx, hb, hml, hown, hts⟩ (tX10_thrown l Γ lo1 y.2 q M1 [zOut Γ qo (vp_updL O 0 (y.1).toInt64)] (show fX10_thrown M1 = some (M1 0 0) from rfl)) (cwV 0 hts gL_law_X10_thrown rfl rfl rfl (by decide +kernel) ⟨Nat.le_of_ble_eq_true rfl, Nat.le_of_ble_eq_true rfl⟩) (wd_x hW (k := 0) rfl) rfl hKK hW hS rfl hl.1 rfl (Nat.le_of_ble_eq_true rfl) dL_law_402 ⟨(by show cells + 1 + 0 + 0 ≤ 601024; omega), (by show slots + 6 + 0 + 0 ≤ 7293034; omega)⟩ (fun H locs hW hS _ _ => ?_)
    refine lv_iload hx hb dL_law_405 (lv_at hl 1 rfl) ?_
    refine lv_icmp_eq (tgt := 412) hx hb dL_law_407 (by decide) (fun _ => ?_) (fun k => absurd hth k)
    refine lv_iload hx hb dL_law_412 (lv_at hl 1 rfl) ?_
    refine lv_if_ne (tgt := 429) hx hb dL_law_414 (by decide) (fun k => absurd rfl k) (fun _ => ?_)
    refine lv_aload_n hx hb dL_law_417 rfl (lv_at hl 3 rfl) ?_
    refine lv_iconst (v := (0)) hx hb dL_law_418 (by decide) ?_
    refine va_lald hx hb hKK.1 (wd_x hW (k := 47) rfl) 0 1 (n := 1) rfl rfl (by unfold vp_in; decide) dL_law_419 ?_
    rw [show vp_updL O 0 (y.1).toInt64 (0 : Int32).toNatClampNeg = (y.1).toInt64 from rfl, hfv]
    refine lv_iload hx hb dL_law_420 (lv_at hl 0 rfl) ?_
    refine lv_i2l hx hb dL_law_422 rfl ?_
    refine W.lcmp hx hb dL_law_423 ?_
    rw [lg_same]
    refine lv_if_eq (tgt := 429) hx hb dL_law_424 (by decide) (fun _ => ?_) (fun k => absurd rfl k)
    refine lv_goto (tgt := 2131) hx hb dL_law_429 (by decide) ?_
    refine W.widen (k := cells + 12) (n := slots + 2700) (by omega) (by omega) ?_
    exact kk lo1 y.2 M1 (vp_updL O 0 (y.1).toInt64) H locs ls hT1 hW hS (lv_sub hl [2, 3, 4, 5, 6] rfl)
  · skip
    refine w_call (As := [.ref (lo (10, 0, 0)), .int (xs (iv + 1).toNatClampNeg), .int (xs (iv + 2).toNatClampNeg), .int (xs (iv + 3).toNatClampNeg), .ref qo]) (rest := []) ⟨hx, hb, hml, hown, hts⟩ (uL_setPoints l hl0 Γ lo S (mcl Γ q M) qo O v_z h9 (by simpa using hn)) (vx_cwSW 5 hts gL_law_L_setPoints rfl rfl rfl (by decide +kernel) ⟨Nat.le_of_ble_eq_true rfl, Nat.le_of_ble_eq_true rfl⟩) hKK hKX hKY hKN hW hS rfl hl.1 rfl (Nat.le_of_ble_eq_true rfl) dL_law_372 ⟨(by show cells + 1 ≤ 601024; omega), (by show slots + 6 ≤ 7293034; omega)⟩ (fun lo1 H locs hW hS h1 hmo _ => ?_)
    rw [← h1 _ v_z] at hl
    refine lv_istore (lv' := [(5, .int (kL [1, 2, 3] ee.1)), (4, .int iv), (3, .ref qo), (2, .ref (q 0)), (1, .ref (lo1 (10, 0, 0))), (0, .ref b)]) hx hb dL_law_375 hl (by decide) rfl (fun ls hl => ?_)
    refine lv_aload_n hx hb dL_law_377 rfl (lv_at hl 3 rfl) ?_
    refine lv_aload_n hx hb dL_law_378 rfl (lv_at hl 5 rfl) ?_
    refine lv_iload hx hb dL_law_379 (lv_at hl 1 rfl) ?_
    refine lv_iconst (v := (1)) hx hb dL_law_381 (by decide) ?_
    refine lv_iadd hx hb dL_law_382 ?_
    refine va_sld hx hb hX hbl hbA hS (hin 1 (by decide) (by decide)) dL_law_383 ?_
    refine lv_aload_n hx hb dL_law_384 rfl (lv_at hl 5 rfl) ?_
    refine lv_iload hx hb dL_law_385 (lv_at hl 1 rfl) ?_
    refine lv_iconst (v := (2)) hx hb dL_law_387 (by decide) ?_
    refine lv_iadd hx hb dL_law_388 ?_
    refine va_sld hx hb hX hbl hbA hS (hin 2 (by decide) (by decide)) dL_law_389 ?_
    refine lv_aload_n hx hb dL_law_390 rfl (lv_at hl 5 rfl) ?_
    refine lv_iload hx hb dL_law_391 (lv_at hl 1 rfl) ?_
    refine lv_iconst (v := (3)) hx hb dL_law_393 (by decide) ?_
    refine lv_iadd hx hb dL_law_394 ?_
    refine va_sld hx hb hX hbl hbA hS (hin 3 (by decide) (by decide)) dL_law_395 ?_
    refine z_callV (As := [.int (xs (iv + 1).toNatClampNeg), .int (xs (iv + 2).toNatClampNeg), .int (xs (iv + 3).toNatClampNeg)]) (rest := []) ⟨hx, hb, hml, hown, hts⟩ (tX10_setPoints l Γ lo1 ee.2 q M [zOut Γ qo O] h10) (cwV 3 hts gL_law_X10_setPoints rfl rfl rfl (by decide +kernel) ⟨Nat.le_of_ble_eq_true rfl, Nat.le_of_ble_eq_true rfl⟩) (wd_x hW (k := 0) rfl) rfl hKK hW hS rfl hl.1 rfl (Nat.le_of_ble_eq_true rfl) dL_law_396 ⟨(by show cells + 1 + 0 ≤ 601024; omega), (by show slots + 6 + 0 ≤ 7293034; omega)⟩ (fun H locs hW hS _ _ => ?_)
    refine lv_istore (lv' := [(6, .int r), (5, .int (kL [1, 2, 3] ee.1)), (4, .int iv), (3, .ref qo), (2, .ref (q 0)), (1, .ref (lo1 (10, 0, 0))), (0, .ref b)]) hx hb dL_law_399 hl (by decide) rfl (fun ls hl => ?_)
    refine lv_aload_n hx hb dL_law_401 rfl (lv_at hl 4 rfl) ?_
    refine z_callV (As := []) (rest := []) ⟨hx, hb, hml, hown, hts⟩ (tX10_thrown l Γ lo1 ee.2 q M1 [zOut Γ qo O] (show fX10_thrown M1 = some (M1 0 0) from rfl)) (cwV 0 hts gL_law_X10_thrown rfl rfl rfl (by decide +kernel) ⟨Nat.le_of_ble_eq_true rfl, Nat.le_of_ble_eq_true rfl⟩) (wd_x hW (k := 0) rfl) rfl hKK hW hS rfl hl.1 rfl (Nat.le_of_ble_eq_true rfl) dL_law_402 ⟨(by show cells + 1 + 0 + 0 ≤ 601024; omega), (by show slots + 6 + 0 + 0 ≤ 7293034; omega)⟩ (fun H locs hW hS _ _ => ?_)
    refine lv_iload hx hb dL_law_405 (lv_at hl 1 rfl) ?_
    refine lv_icmp_eq (tgt := 412) hx hb dL_law_407 (by decide) (fun _ => ?_) (fun k => absurd hth k)
    refine lv_iload hx hb dL_law_412 (lv_at hl 1 rfl) ?_
    refine lv_if_ne (tgt := 429) hx hb dL_law_414 (by decide) (fun _ => ?_) (fun k => absurd k (kL_ne _ _ hn (Nat.le_of_ble_eq_true rfl)))
    refine lv_goto (tgt := 2131) hx hb dL_law_429 (by decide) ?_
    refine W.widen (k := cells + 12) (n := slots + 2700) (by omega) (by omega) ?_
    exact kk lo1 ee.2 M1 O H locs ls hT1 hW hS (lv_sub hl [2, 3, 4, 5, 6] rfl)

set_option maxHeartbeats 4000000 in
set_option maxRecDepth 100000 in
theorem lw_c3 {p : Program} {e : Env} {s : State} {m : MethodId} {below : List Frame} {meth : Method} {c : Code} {Q : State → Prop} (l : Launch) (hl0 : l.stackTraces = false) {Γ : zG} {T : zSt → zMs → Prop} (hT : zSteps T) {b L : Nat} {xs : Nat → Int32} (C0 : lwC p s m meth c Γ b L xs) {lo : zId → Nat} {S : zSt} {q : Nat → Nat} {M : zMs} {qo : Nat} {O : Nat → Int64} {iv : Int32} {cells slots : Nat} {H : Heap} {locs : List Loc} {ls : Array Slot} (hTT : T S M) (hW : Wd Γ lo S (mcl Γ q M ++ [zOut Γ qo O]) H) (hS : va_S (zA Γ) s.heap H locs) (hl : lv_has ls 8 (lwLv lo (q 0) qo b iv)) (hin : ∀ k : Int32, 0 ≤ k → k ≤ 5 → vp_in (iv + k) L) (hc : cells + 12 ≤ 601024) (hs : slots + 2700 ≤ 7293034) (kk : ∀ (lo1 : zId → Nat) (S1 : zSt) (M1 : zMs) (O1 : Nat → Int64) (H1 : Heap) (locs1 : List Loc) (ls1 : Array Slot), T S1 M1 → Wd Γ lo1 S1 (mcl Γ q M1 ++ [zOut Γ qo O1]) H1 → va_S (zA Γ) s.heap H1 locs1 → lv_has ls1 8 (lwLv lo1 (q 0) qo b iv) → W p l e room_1 s m #[Value.ref b] below meth c H1 locs1 (cells + 12) (slots + 2700) Q (F0 m 2131 ls1 [])) : W p l e room_1 s m #[Value.ref b] below meth c H locs cells slots Q (F0 m 432 ls []) := by
  obtain ⟨hx, hb, hml, hown, hts, hX, hbl, hbA, hB0, hKK, hKX, hKY, hKN⟩ := C0
  have v_z : zV S (10, 0, 0) = true := hT.1 _ _ hTT
  have hl : lv_has ls 8 [(4, .int iv), (3, .ref qo), (2, .ref (q 0)), (1, .ref (lo (10, 0, 0))), (0, .ref b)] := hl
  refine lv_aload_n hx hb dL_law_432 rfl (lv_at hl 3 rfl) ?_
  refine lv_aload_n hx hb dL_law_433 rfl (lv_at hl 4 rfl) ?_
  refine lv_iload hx hb dL_law_434 (lv_at hl 0 rfl) ?_
  refine lv_iconst (v := (1)) hx hb dL_law_436 (by decide) ?_
  refine lv_iadd hx hb dL_law_437 ?_
  refine va_sld hx hb hX hbl hbA hS (hin 1 (by decide) (by decide)) dL_law_438 ?_
  refine lv_aload_n hx hb dL_law_439 rfl (lv_at hl 4 rfl) ?_
  refine lv_iload hx hb dL_law_440 (lv_at hl 0 rfl) ?_
  refine lv_iconst (v := (2)) hx hb dL_law_442 (by decide) ?_
  refine lv_iadd hx hb dL_law_443 ?_
  refine va_sld hx hb hX hbl hbA hS (hin 2 (by decide) (by decide)) dL_law_444 ?_
  refine lv_aload_n hx hb dL_law_445 rfl (lv_at hl 4 rfl) ?_
  refine lv_iload hx hb dL_law_446 (lv_at hl 0 rfl) ?_
  refine lv_iconst (v := (3)) hx hb dL_law_448 (by decide) ?_
  refine lv_iadd hx hb dL_law_449 ?_
  refine va_sld hx hb hX hbl hbA hS (hin 3 (by decide) (by decide)) dL_law_450 ?_
  refine lv_aload_n hx hb dL_law_451 rfl (lv_at hl 4 rfl) ?_
  refine lv_iload hx hb dL_law_452 (lv_at hl 0 rfl) ?_
  refine lv_iconst (v := (4)) hx hb dL_law_454 (by decide) ?_
  refine lv_iadd hx hb dL_law_455 ?_
  refine va_sld hx hb hX hbl hbA hS (hin 4 (by decide) (by decide)) dL_law_456 ?_
  refine lv_aload_n hx hb dL_law_457 rfl (lv_at hl 4 rfl) ?_
  refine lv_iload hx hb dL_law_458 (lv_at hl 0 rfl) ?_
  refine lv_iconst (v := (5)) hx hb dL_law_460 (by decide) ?_
  refine lv_iadd hx hb dL_law_461 ?_
  refine va_sld hx hb hX hbl hbA hS (hin 5 (by decide) (by decide)) dL_law_462 ?_
  refine lv_aload_n hx hb dL_law_463 rfl (lv_at hl 1 rfl) ?_
  rcases st_setMode hT S M (xs (iv + 1).toNatClampNeg) (xs (iv + 2).toNatClampNeg) (xs (iv + 3).toNatClampNeg) (xs (iv + 4).toNatClampNeg) (xs (iv + 5).toNatClampNeg) hTT with ⟨y, r, M1, h9, h10, hth, hfv, hT1⟩ | ⟨ee, r, M1, h9, h10, hn, hth, hT1⟩
  · dsimp only at hfv hT1
    refine w_call (As := [.ref (lo (10, 0, 0)), .int (xs (iv + 1).toNatClampNeg), .int (xs (iv + 2).toNatClampNeg), .int (xs (iv + 3).toNatClampNeg), .int (xs (iv + 4).toNatClampNeg), .int (xs (iv + 5).toNatClampNeg), .ref qo]) (rest := []) ⟨hx, hb, hml, hown, hts⟩ (tL_setMode l Γ lo S (mcl Γ q M) qo O v_z h9) (vx_cwSW 7 hts gL_law_L_setMode rfl rfl rfl (by decide +kernel) ⟨Nat.le_of_ble_eq_true rfl, Nat.le_of_ble_eq_true rfl⟩) hKK hKX hKY hKN hW hS rfl hl.1 rfl (Nat.le_of_ble_eq_true rfl) dL_law_464 ⟨(by show cells + 1 ≤ 601024; omega), (by show slots + 6 ≤ 7293034; omega)⟩ (fun lo1 H locs hW hS h1 hmo _ => ?_)
    rw [← h1 _ v_z] at hl
    have hW := wd_cnt hW (zN y.2 (10, 0, 0) 0 + 1)
    refine lv_istore (lv' := [(5, .int (0 : Int32)), (4, .int iv), (3, .ref qo), (2, .ref (q 0)), (1, .ref (lo1 (10, 0, 0))), (0, .ref b)]) hx hb dL_law_467 hl (by decide) rfl (fun ls hl => ?_)
    refine lv_aload_n hx hb dL_law_469 rfl (lv_at hl 3 rfl) ?_
    refine lv_aload_n hx hb dL_law_470 rfl (lv_at hl 5 rfl) ?_
    refine lv_iload hx hb dL_law_471 (lv_at hl 1 rfl) ?_
    refine lv_iconst (v := (1)) hx hb dL_law_473 (by decide) ?_
    refine lv_iadd hx hb dL_law_474 ?_
    refine va_sld hx hb hX hbl hbA hS (hin 1 (by decide) (by decide)) dL_law_475 ?_
    refine lv_aload_n hx hb dL_law_476 rfl (lv_at hl 5 rfl) ?_
    refine lv_iload hx hb dL_law_477 (lv_at hl 1 rfl) ?_
    refine lv_iconst (v := (2)) hx hb dL_law_479 (by decide) ?_
    refine lv_iadd hx hb dL_law_480 ?_
    refine va_sld hx hb hX hbl hbA hS (hin 2 (by decide) (by decide)) dL_law_481 ?_
    refine lv_aload_n hx hb dL_law_482 rfl (lv_at hl 5 rfl) ?_
    refine lv_iload hx hb dL_law_483 (lv_at hl 1 rfl) ?_
    refine lv_iconst (v := (3)) hx hb dL_law_485 (by decide) ?_
    refine lv_iadd hx hb dL_law_486 ?_
    refine va_sld hx hb hX hbl hbA hS (hin 3 (by decide) (by decide)) dL_law_487 ?_
    refine lv_aload_n hx hb dL_law_488 rfl (lv_at hl 5 rfl) ?_
    refine lv_iload hx hb dL_law_489 (lv_at hl 1 rfl) ?_
    refine lv_iconst (v := (4)) hx hb dL_law_491 (by decide) ?_
    refine lv_iadd hx hb dL_law_492 ?_
    refine va_sld hx hb hX hbl hbA hS (hin 4 (by decide) (by decide)) dL_law_493 ?_
    refine lv_aload_n hx hb dL_law_494 rfl (lv_at hl 5 rfl) ?_
    refine lv_iload hx hb dL_law_495 (lv_at hl 1 rfl) ?_
    refine lv_iconst (v := (5)) hx hb dL_law_497 (by decide) ?_
    refine lv_iadd hx hb dL_law_498 ?_
    refine va_sld hx hb hX hbl hbA hS (hin 5 (by decide) (by decide)) dL_law_499 ?_
    refine z_callV (As := [.int (xs (iv + 1).toNatClampNeg), .int (xs (iv + 2).toNatClampNeg), .int (xs (iv + 3).toNatClampNeg), .int (xs (iv + 4).toNatClampNeg), .int (xs (iv + 5).toNatClampNeg)]) (rest := []) ⟨hx, hb, hml, hown, hts⟩ (tX10_setMode l Γ lo1 (pN y.2 (10, 0, 0) 0 (zN y.2 (10, 0, 0) 0 + 1)) q M [zOut Γ qo (vp_updL O 0 (if y.1 = 0 then (0 : Int64) else 1))] h10) (cwV 5 hts gL_law_X10_setMode rfl rfl rfl (by decide +kernel) ⟨Nat.le_of_ble_eq_true rfl, Nat.le_of_ble_eq_true rfl⟩) (wd_x hW (k := 0) rfl) rfl hKK hW hS rfl hl.1 rfl (Nat.le_of_ble_eq_true rfl) dL_law_500 ⟨(by show cells + 1 + 0 ≤ 601024; omega), (by show slots + 6 + 0 ≤ 7293034; omega)⟩ (fun H locs hW hS _ _ => ?_)
    refine lv_istore (lv' := [(6, .int r), (5, .int (0 : Int32)), (4, .int iv), (3, .ref qo), (2, .ref (q 0)), (1, .ref (lo1 (10, 0, 0))), (0, .ref b)]) hx hb dL_law_503 hl (by decide) rfl (fun ls hl => ?_)
    refine lv_aload_n hx hb dL_law_505 rfl (lv_at hl 4 rfl) ?_
    refine z_callV (As := []) (rest := []) ⟨hx, hb, hml, hown, hts⟩ (tX10_thrown l Γ lo1 (pN y.2 (10, 0, 0) 0 (zN y.2 (10, 0, 0) 0 + 1)) q M1 [zOut Γ qo (vp_updL O 0 (if y.1 = 0 then (0 : Int64) else 1))] (show fX10_thrown M1 = some (M1 0 0) from rfl)) (cwV 0 hts gL_law_X10_thrown rfl rfl rfl (by decide +kernel) ⟨Nat.le_of_ble_eq_true rfl, Nat.le_of_ble_eq_true rfl⟩) (wd_x hW (k := 0) rfl) rfl hKK hW hS rfl hl.1 rfl (Nat.le_of_ble_eq_true rfl) dL_law_506 ⟨(by show cells + 1 + 0 + 0 ≤ 601024; omega), (by show slots + 6 + 0 + 0 ≤ 7293034; omega)⟩ (fun H locs hW hS _ _ => ?_)
    refine lv_iload hx hb dL_law_509 (lv_at hl 1 rfl) ?_
    refine lv_icmp_eq (tgt := 516) hx hb dL_law_511 (by decide) (fun _ => ?_) (fun k => absurd hth k)
    refine lv_iload hx hb dL_law_516 (lv_at hl 1 rfl) ?_
    refine lv_if_ne (tgt := 540) hx hb dL_law_518 (by decide) (fun k => absurd rfl k) (fun _ => ?_)
    refine lv_aload_n hx hb dL_law_521 rfl (lv_at hl 3 rfl) ?_
    refine lv_iconst (v := (0)) hx hb dL_law_522 (by decide) ?_
    refine va_lald hx hb hKK.1 (wd_x hW (k := 47) rfl) 0 1 (n := 1) rfl rfl (by unfold vp_in; decide) dL_law_523 ?_
    rw [show vp_updL O 0 (if y.1 = 0 then (0 : Int64) else 1) (0 : Int32).toNatClampNeg = (if y.1 = 0 then (0 : Int64) else 1) from rfl, hfv]
    refine lv_iload hx hb dL_law_524 (lv_at hl 0 rfl) ?_
    refine lv_if_eq (tgt := 533) hx hb dL_law_526 (by decide) (fun k => ?_) (fun k => ?_)
    · rw [if_pos k]
      refine lv_lconst (v := (0)) hx hb dL_law_533 (by decide) ?_
      refine W.lcmp hx hb dL_law_534 ?_
      rw [lg_same]
      refine lv_if_eq (tgt := 540) hx hb dL_law_535 (by decide) (fun _ => ?_) (fun k => absurd rfl k)
      refine lv_goto (tgt := 2131) hx hb dL_law_540 (by decide) ?_
      refine W.widen (k := cells + 12) (n := slots + 2700) (by omega) (by omega) ?_
      exact kk lo1 (pN y.2 (10, 0, 0) 0 (zN y.2 (10, 0, 0) 0 + 1)) M1 (vp_updL O 0 (if y.1 = 0 then (0 : Int64) else 1)) H locs ls hT1 hW hS (lv_sub hl [2, 3, 4, 5, 6] rfl)
    · rw [if_neg k]
      refine lv_lconst (v := (1)) hx hb dL_law_529 (by decide) ?_
      refine lv_goto (tgt := 534) hx hb dL_law_530 (by decide) ?_
      refine W.lcmp hx hb dL_law_534 ?_
      rw [lg_same]
      refine lv_if_eq (tgt := 540) hx hb dL_law_535 (by decide) (fun _ => ?_) (fun k => absurd rfl k)
      refine lv_goto (tgt := 2131) hx hb dL_law_540 (by decide) ?_
      refine W.widen (k := cells + 12) (n := slots + 2700) (by omega) (by omega) ?_
      exact kk lo1 (pN y.2 (10, 0, 0) 0 (zN y.2 (10, 0, 0) 0 + 1)) M1 (vp_updL O 0 (if y.1 = 0 then (0 : Int64) else 1)) H locs ls hT1 hW hS (lv_sub hl [2, 3, 4, 5, 6] rfl)
  · skip
    refine w_call (As := [.ref (lo (10, 0, 0)), .int (xs (iv + 1).toNatClampNeg), .int (xs (iv + 2).toNatClampNeg), .int (xs (iv + 3).toNatClampNeg), .int (xs (iv + 4).toNatClampNeg), .int (xs (iv + 5).toNatClampNeg), .ref qo]) (rest := []) ⟨hx, hb, hml, hown, hts⟩ (uL_setMode l hl0 Γ lo S (mcl Γ q M) qo O v_z h9 (by simpa using hn)) (vx_cwSW 7 hts gL_law_L_setMode rfl rfl rfl (by decide +kernel) ⟨Nat.le_of_ble_eq_true rfl, Nat.le_of_ble_eq_true rfl⟩) hKK hKX hKY hKN hW hS rfl hl.1 rfl (Nat.le_of_ble_eq_true rfl) dL_law_464 ⟨(by show cells + 1 ≤ 601024; omega), (by show slots + 6 ≤ 7293034; omega)⟩ (fun lo1 H locs hW hS h1 hmo _ => ?_)
    rw [← h1 _ v_z] at hl
    refine lv_istore (lv' := [(5, .int (kL [1, 2, 3] ee.1)), (4, .int iv), (3, .ref qo), (2, .ref (q 0)), (1, .ref (lo1 (10, 0, 0))), (0, .ref b)]) hx hb dL_law_467 hl (by decide) rfl (fun ls hl => ?_)
    refine lv_aload_n hx hb dL_law_469 rfl (lv_at hl 3 rfl) ?_
    refine lv_aload_n hx hb dL_law_470 rfl (lv_at hl 5 rfl) ?_
    refine lv_iload hx hb dL_law_471 (lv_at hl 1 rfl) ?_
    refine lv_iconst (v := (1)) hx hb dL_law_473 (by decide) ?_
    refine lv_iadd hx hb dL_law_474 ?_
    refine va_sld hx hb hX hbl hbA hS (hin 1 (by decide) (by decide)) dL_law_475 ?_
    refine lv_aload_n hx hb dL_law_476 rfl (lv_at hl 5 rfl) ?_
    refine lv_iload hx hb dL_law_477 (lv_at hl 1 rfl) ?_
    refine lv_iconst (v := (2)) hx hb dL_law_479 (by decide) ?_
    refine lv_iadd hx hb dL_law_480 ?_
    refine va_sld hx hb hX hbl hbA hS (hin 2 (by decide) (by decide)) dL_law_481 ?_
    refine lv_aload_n hx hb dL_law_482 rfl (lv_at hl 5 rfl) ?_
    refine lv_iload hx hb dL_law_483 (lv_at hl 1 rfl) ?_
    refine lv_iconst (v := (3)) hx hb dL_law_485 (by decide) ?_
    refine lv_iadd hx hb dL_law_486 ?_
    refine va_sld hx hb hX hbl hbA hS (hin 3 (by decide) (by decide)) dL_law_487 ?_
    refine lv_aload_n hx hb dL_law_488 rfl (lv_at hl 5 rfl) ?_
    refine lv_iload hx hb dL_law_489 (lv_at hl 1 rfl) ?_
    refine lv_iconst (v := (4)) hx hb dL_law_491 (by decide) ?_
    refine lv_iadd hx hb dL_law_492 ?_
    refine va_sld hx hb hX hbl hbA hS (hin 4 (by decide) (by decide)) dL_law_493 ?_
    refine lv_aload_n hx hb dL_law_494 rfl (lv_at hl 5 rfl) ?_
    refine lv_iload hx hb dL_law_495 (lv_at hl 1 rfl) ?_
    refine lv_iconst (v := (5)) hx hb dL_law_497 (by decide) ?_
    refine lv_iadd hx hb dL_law_498 ?_
    refine va_sld hx hb hX hbl hbA hS (hin 5 (by decide) (by decide)) dL_law_499 ?_
    refine z_callV (As := [.int (xs (iv + 1).toNatClampNeg), .int (xs (iv + 2).toNatClampNeg), .int (xs (iv + 3).toNatClampNeg), .int (xs (iv + 4).toNatClampNeg), .int (xs (iv + 5).toNatClampNeg)]) (rest := []) ⟨hx, hb, hml, hown, hts⟩ (tX10_setMode l Γ lo1 ee.2 q M [zOut Γ qo O] h10) (cwV 5 hts gL_law_X10_setMode rfl rfl rfl (by decide +kernel) ⟨Nat.le_of_ble_eq_true rfl, Nat.le_of_ble_eq_true rfl⟩) (wd_x hW (k := 0) rfl) rfl hKK hW hS rfl hl.1 rfl (Nat.le_of_ble_eq_true rfl) dL_law_500 ⟨(by show cells + 1 + 0 ≤ 601024; omega), (by show slots + 6 + 0 ≤ 7293034; omega)⟩ (fun H locs hW hS _ _ => ?_)
    refine lv_istore (lv' := [(6, .int r), (5, .int (kL [1, 2, 3] ee.1)), (4, .int iv), (3, .ref qo), (2, .ref (q 0)), (1, .ref (lo1 (10, 0, 0))), (0, .ref b)]) hx hb dL_law_503 hl (by decide) rfl (fun ls hl => ?_)
    refine lv_aload_n hx hb dL_law_505 rfl (lv_at hl 4 rfl) ?_
    refine z_callV (As := []) (rest := []) ⟨hx, hb, hml, hown, hts⟩ (tX10_thrown l Γ lo1 ee.2 q M1 [zOut Γ qo O] (show fX10_thrown M1 = some (M1 0 0) from rfl)) (cwV 0 hts gL_law_X10_thrown rfl rfl rfl (by decide +kernel) ⟨Nat.le_of_ble_eq_true rfl, Nat.le_of_ble_eq_true rfl⟩) (wd_x hW (k := 0) rfl) rfl hKK hW hS rfl hl.1 rfl (Nat.le_of_ble_eq_true rfl) dL_law_506 ⟨(by show cells + 1 + 0 + 0 ≤ 601024; omega), (by show slots + 6 + 0 + 0 ≤ 7293034; omega)⟩ (fun H locs hW hS _ _ => ?_)
    refine lv_iload hx hb dL_law_509 (lv_at hl 1 rfl) ?_
    refine lv_icmp_eq (tgt := 516) hx hb dL_law_511 (by decide) (fun _ => ?_) (fun k => absurd hth k)
    refine lv_iload hx hb dL_law_516 (lv_at hl 1 rfl) ?_
    refine lv_if_ne (tgt := 540) hx hb dL_law_518 (by decide) (fun _ => ?_) (fun k => absurd k (kL_ne _ _ hn (Nat.le_of_ble_eq_true rfl)))
    refine lv_goto (tgt := 2131) hx hb dL_law_540 (by decide) ?_
    refine W.widen (k := cells + 12) (n := slots + 2700) (by omega) (by omega) ?_
    exact kk lo1 ee.2 M1 O H locs ls hT1 hW hS (lv_sub hl [2, 3, 4, 5, 6] rfl)

set_option maxHeartbeats 4000000 in
set_option maxRecDepth 100000 in
theorem lw_c4 {p : Program} {e : Env} {s : State} {m : MethodId} {below : List Frame} {meth : Method} {c : Code} {Q : State → Prop} (l : Launch) (hl0 : l.stackTraces = false) {Γ : zG} {T : zSt → zMs → Prop} (hT : zSteps T) {b L : Nat} {xs : Nat → Int32} (C0 : lwC p s m meth c Γ b L xs) {lo : zId → Nat} {S : zSt} {q : Nat → Nat} {M : zMs} {qo : Nat} {O : Nat → Int64} {iv : Int32} {cells slots : Nat} {H : Heap} {locs : List Loc} {ls : Array Slot} (hTT : T S M) (hW : Wd Γ lo S (mcl Γ q M ++ [zOut Γ qo O]) H) (hS : va_S (zA Γ) s.heap H locs) (hl : lv_has ls 8 (lwLv lo (q 0) qo b iv)) (hin : ∀ k : Int32, 0 ≤ k → k ≤ 5 → vp_in (iv + k) L) (hc : cells + 12 ≤ 601024) (hs : slots + 2700 ≤ 7293034) (kk : ∀ (lo1 : zId → Nat) (S1 : zSt) (M1 : zMs) (O1 : Nat → Int64) (H1 : Heap) (locs1 : List Loc) (ls1 : Array Slot), T S1 M1 → Wd Γ lo1 S1 (mcl Γ q M1 ++ [zOut Γ qo O1]) H1 → va_S (zA Γ) s.heap H1 locs1 → lv_has ls1 8 (lwLv lo1 (q 0) qo b iv) → W p l e room_1 s m #[Value.ref b] below meth c H1 locs1 (cells + 12) (slots + 2700) Q (F0 m 2131 ls1 [])) : W p l e room_1 s m #[Value.ref b] below meth c H locs cells slots Q (F0 m 543 ls []) := by
  obtain ⟨hx, hb, hml, hown, hts, hX, hbl, hbA, hB0, hKK, hKX, hKY, hKN⟩ := C0
  have v_z : zV S (10, 0, 0) = true := hT.1 _ _ hTT
  have hl : lv_has ls 8 [(4, .int iv), (3, .ref qo), (2, .ref (q 0)), (1, .ref (lo (10, 0, 0))), (0, .ref b)] := hl
  obtain ⟨n, M1, h9, h10, hT1⟩ := st_tables hT S M hTT
  refine lv_aload_n hx hb dL_law_543 rfl (lv_at hl 3 rfl) ?_
  refine z_callV (As := []) (rest := []) ⟨hx, hb, hml, hown, hts⟩ (tX9_tables l Γ lo S (mcl Γ q M ++ [zOut Γ qo O]) v_z h9) (cwV 0 hts gL_law_X9_tables rfl rfl rfl (by decide +kernel) ⟨Nat.le_of_ble_eq_true rfl, Nat.le_of_ble_eq_true rfl⟩) (wd_1 hW v_z) rfl hKK hW hS rfl hl.1 rfl (Nat.le_of_ble_eq_true rfl) dL_law_544 ⟨(by show cells + 0 ≤ 601024; omega), (by show slots + 0 ≤ 7293034; omega)⟩ (fun H locs hW hS _ _ => ?_)
  refine lv_aload_n hx hb dL_law_547 rfl (lv_at hl 2 rfl) ?_
  refine z_callV (As := []) (rest := [.int n]) ⟨hx, hb, hml, hown, hts⟩ (tX10_tables l Γ lo S q M [zOut Γ qo O] h10) (cwV 0 hts gL_law_X10_tables rfl rfl rfl (by decide +kernel) ⟨Nat.le_of_ble_eq_true rfl, Nat.le_of_ble_eq_true rfl⟩) (wd_x hW (k := 0) rfl) rfl hKK hW hS rfl hl.1 rfl (Nat.le_of_ble_eq_true rfl) dL_law_548 ⟨(by show cells + 0 + 0 ≤ 601024; omega), (by show slots + 0 + 0 ≤ 7293034; omega)⟩ (fun H locs hW hS _ _ => ?_)
  refine lv_icmp_eq (tgt := 2131) hx hb dL_law_551 (by decide) (fun _ => ?_) (fun k => absurd rfl k)
  refine W.widen (k := cells + 12) (n := slots + 2700) (by omega) (by omega) ?_
  exact kk lo S M1 O H locs ls hT1 hW hS hl

set_option maxHeartbeats 4000000 in
set_option maxRecDepth 100000 in
theorem lw_c5 {p : Program} {e : Env} {s : State} {m : MethodId} {below : List Frame} {meth : Method} {c : Code} {Q : State → Prop} (l : Launch) (hl0 : l.stackTraces = false) {Γ : zG} {T : zSt → zMs → Prop} (hT : zSteps T) {b L : Nat} {xs : Nat → Int32} (C0 : lwC p s m meth c Γ b L xs) {lo : zId → Nat} {S : zSt} {q : Nat → Nat} {M : zMs} {qo : Nat} {O : Nat → Int64} {iv : Int32} {cells slots : Nat} {H : Heap} {locs : List Loc} {ls : Array Slot} (hTT : T S M) (hW : Wd Γ lo S (mcl Γ q M ++ [zOut Γ qo O]) H) (hS : va_S (zA Γ) s.heap H locs) (hl : lv_has ls 8 (lwLv lo (q 0) qo b iv)) (hin : ∀ k : Int32, 0 ≤ k → k ≤ 5 → vp_in (iv + k) L) (hc : cells + 12 ≤ 601024) (hs : slots + 2700 ≤ 7293034) (kk : ∀ (lo1 : zId → Nat) (S1 : zSt) (M1 : zMs) (O1 : Nat → Int64) (H1 : Heap) (locs1 : List Loc) (ls1 : Array Slot), T S1 M1 → Wd Γ lo1 S1 (mcl Γ q M1 ++ [zOut Γ qo O1]) H1 → va_S (zA Γ) s.heap H1 locs1 → lv_has ls1 8 (lwLv lo1 (q 0) qo b iv) → W p l e room_1 s m #[Value.ref b] below meth c H1 locs1 (cells + 12) (slots + 2700) Q (F0 m 2131 ls1 [])) : W p l e room_1 s m #[Value.ref b] below meth c H locs cells slots Q (F0 m 556 ls []) := by
  obtain ⟨hx, hb, hml, hown, hts, hX, hbl, hbA, hB0, hKK, hKX, hKY, hKN⟩ := C0
  have v_z : zV S (10, 0, 0) = true := hT.1 _ _ hTT
  have hl : lv_has ls 8 [(4, .int iv), (3, .ref qo), (2, .ref (q 0)), (1, .ref (lo (10, 0, 0))), (0, .ref b)] := hl
  refine lv_aload_n hx hb dL_law_556 rfl (lv_at hl 3 rfl) ?_
  refine lv_aload_n hx hb dL_law_557 rfl (lv_at hl 4 rfl) ?_
  refine lv_iload hx hb dL_law_558 (lv_at hl 0 rfl) ?_
  refine lv_iconst (v := (1)) hx hb dL_law_560 (by decide) ?_
  refine lv_iadd hx hb dL_law_561 ?_
  refine va_sld hx hb hX hbl hbA hS (hin 1 (by decide) (by decide)) dL_law_562 ?_
  refine lv_aload_n hx hb dL_law_563 rfl (lv_at hl 4 rfl) ?_
  refine lv_iload hx hb dL_law_564 (lv_at hl 0 rfl) ?_
  refine lv_iconst (v := (2)) hx hb dL_law_566 (by decide) ?_
  refine lv_iadd hx hb dL_law_567 ?_
  refine va_sld hx hb hX hbl hbA hS (hin 2 (by decide) (by decide)) dL_law_568 ?_
  refine lv_aload_n hx hb dL_law_569 rfl (lv_at hl 1 rfl) ?_
  rcases st_stick hT S M (xs (iv + 1).toNatClampNeg) (xs (iv + 2).toNatClampNeg) hTT with ⟨y, r, M1, h9, h10, hth, hfv, hT1⟩ | ⟨ee, r, M1, h9, h10, hn, hth, hT1⟩
  · dsimp only at hfv hT1
    refine w_call (As := [.ref (lo (10, 0, 0)), .int (xs (iv + 1).toNatClampNeg), .int (xs (iv + 2).toNatClampNeg), .ref qo]) (rest := []) ⟨hx, hb, hml, hown, hts⟩ (tL_stick l Γ lo S (mcl Γ q M) qo O v_z h9) (vx_cwSW 4 hts gL_law_L_stick rfl rfl rfl (by decide +kernel) ⟨Nat.le_of_ble_eq_true rfl, Nat.le_of_ble_eq_true rfl⟩) hKK hKX hKY hKN hW hS rfl hl.1 rfl (Nat.le_of_ble_eq_true rfl) dL_law_570 ⟨(by show cells + 1 ≤ 601024; omega), (by show slots + 6 ≤ 7293034; omega)⟩ (fun lo1 H locs hW hS h1 hmo _ => ?_)
    rw [← h1 _ v_z] at hl
    refine lv_istore (lv' := [(5, .int (0 : Int32)), (4, .int iv), (3, .ref qo), (2, .ref (q 0)), (1, .ref (lo1 (10, 0, 0))), (0, .ref b)]) hx hb dL_law_573 hl (by decide) rfl (fun ls hl => ?_)
    refine lv_aload_n hx hb dL_law_575 rfl (lv_at hl 3 rfl) ?_
    refine lv_aload_n hx hb dL_law_576 rfl (lv_at hl 5 rfl) ?_
    refine lv_iload hx hb dL_law_577 (lv_at hl 1 rfl) ?_
    refine lv_iconst (v := (1)) hx hb dL_law_579 (by decide) ?_
    refine lv_iadd hx hb dL_law_580 ?_
    refine va_sld hx hb hX hbl hbA hS (hin 1 (by decide) (by decide)) dL_law_581 ?_
    refine lv_aload_n hx hb dL_law_582 rfl (lv_at hl 5 rfl) ?_
    refine lv_iload hx hb dL_law_583 (lv_at hl 1 rfl) ?_
    refine lv_iconst (v := (2)) hx hb dL_law_585 (by decide) ?_
    refine lv_iadd hx hb dL_law_586 ?_
    refine va_sld hx hb hX hbl hbA hS (hin 2 (by decide) (by decide)) dL_law_587 ?_
    refine z_callV (As := [.int (xs (iv + 1).toNatClampNeg), .int (xs (iv + 2).toNatClampNeg)]) (rest := []) ⟨hx, hb, hml, hown, hts⟩ (tX10_stick l Γ lo1 y.2 q M [zOut Γ qo (vp_updL O 0 (y.1).toInt64)] h10) (cwV 2 hts gL_law_X10_stick rfl rfl rfl (by decide +kernel) ⟨Nat.le_of_ble_eq_true rfl, Nat.le_of_ble_eq_true rfl⟩) (wd_x hW (k := 0) rfl) rfl hKK hW hS rfl hl.1 rfl (Nat.le_of_ble_eq_true rfl) dL_law_588 ⟨(by show cells + 1 + 0 ≤ 601024; omega), (by show slots + 6 + 0 ≤ 7293034; omega)⟩ (fun H locs hW hS _ _ => ?_)
    refine lv_istore (lv' := [(6, .int r), (5, .int (0 : Int32)), (4, .int iv), (3, .ref qo), (2, .ref (q 0)), (1, .ref (lo1 (10, 0, 0))), (0, .ref b)]) hx hb dL_law_591 hl (by decide) rfl (fun ls hl => ?_)
    refine lv_aload_n hx hb dL_law_593 rfl (lv_at hl 4 rfl) ?_
    refine z_callV (As := []) (rest := []) ⟨hx, hb, hml, hown, hts⟩ (tX10_thrown l Γ lo1 y.2 q M1 [zOut Γ qo (vp_updL O 0 (y.1).toInt64)] (show fX10_thrown M1 = some (M1 0 0) from rfl)) (cwV 0 hts gL_law_X10_thrown rfl rfl rfl (by decide +kernel) ⟨Nat.le_of_ble_eq_true rfl, Nat.le_of_ble_eq_true rfl⟩) (wd_x hW (k := 0) rfl) rfl hKK hW hS rfl hl.1 rfl (Nat.le_of_ble_eq_true rfl) dL_law_594 ⟨(by show cells + 1 + 0 + 0 ≤ 601024; omega), (by show slots + 6 + 0 + 0 ≤ 7293034; omega)⟩ (fun H locs hW hS _ _ => ?_)
    refine lv_iload hx hb dL_law_597 (lv_at hl 1 rfl) ?_
    refine lv_icmp_eq (tgt := 604) hx hb dL_law_599 (by decide) (fun _ => ?_) (fun k => absurd hth k)
    refine lv_iload hx hb dL_law_604 (lv_at hl 1 rfl) ?_
    refine lv_if_ne (tgt := 621) hx hb dL_law_606 (by decide) (fun k => absurd rfl k) (fun _ => ?_)
    refine lv_aload_n hx hb dL_law_609 rfl (lv_at hl 3 rfl) ?_
    refine lv_iconst (v := (0)) hx hb dL_law_610 (by decide) ?_
    refine va_lald hx hb hKK.1 (wd_x hW (k := 47) rfl) 0 1 (n := 1) rfl rfl (by unfold vp_in; decide) dL_law_611 ?_
    rw [show vp_updL O 0 (y.1).toInt64 (0 : Int32).toNatClampNeg = (y.1).toInt64 from rfl, hfv]
    refine lv_iload hx hb dL_law_612 (lv_at hl 0 rfl) ?_
    refine lv_i2l hx hb dL_law_614 rfl ?_
    refine W.lcmp hx hb dL_law_615 ?_
    rw [lg_same]
    refine lv_if_eq (tgt := 621) hx hb dL_law_616 (by decide) (fun _ => ?_) (fun k => absurd rfl k)
    refine lv_goto (tgt := 2131) hx hb dL_law_621 (by decide) ?_
    refine W.widen (k := cells + 12) (n := slots + 2700) (by omega) (by omega) ?_
    exact kk lo1 y.2 M1 (vp_updL O 0 (y.1).toInt64) H locs ls hT1 hW hS (lv_sub hl [2, 3, 4, 5, 6] rfl)
  · skip
    refine w_call (As := [.ref (lo (10, 0, 0)), .int (xs (iv + 1).toNatClampNeg), .int (xs (iv + 2).toNatClampNeg), .ref qo]) (rest := []) ⟨hx, hb, hml, hown, hts⟩ (uL_stick l hl0 Γ lo S (mcl Γ q M) qo O v_z h9 (by simpa using hn)) (vx_cwSW 4 hts gL_law_L_stick rfl rfl rfl (by decide +kernel) ⟨Nat.le_of_ble_eq_true rfl, Nat.le_of_ble_eq_true rfl⟩) hKK hKX hKY hKN hW hS rfl hl.1 rfl (Nat.le_of_ble_eq_true rfl) dL_law_570 ⟨(by show cells + 1 ≤ 601024; omega), (by show slots + 6 ≤ 7293034; omega)⟩ (fun lo1 H locs hW hS h1 hmo _ => ?_)
    rw [← h1 _ v_z] at hl
    refine lv_istore (lv' := [(5, .int (kL [1, 3] ee.1)), (4, .int iv), (3, .ref qo), (2, .ref (q 0)), (1, .ref (lo1 (10, 0, 0))), (0, .ref b)]) hx hb dL_law_573 hl (by decide) rfl (fun ls hl => ?_)
    refine lv_aload_n hx hb dL_law_575 rfl (lv_at hl 3 rfl) ?_
    refine lv_aload_n hx hb dL_law_576 rfl (lv_at hl 5 rfl) ?_
    refine lv_iload hx hb dL_law_577 (lv_at hl 1 rfl) ?_
    refine lv_iconst (v := (1)) hx hb dL_law_579 (by decide) ?_
    refine lv_iadd hx hb dL_law_580 ?_
    refine va_sld hx hb hX hbl hbA hS (hin 1 (by decide) (by decide)) dL_law_581 ?_
    refine lv_aload_n hx hb dL_law_582 rfl (lv_at hl 5 rfl) ?_
    refine lv_iload hx hb dL_law_583 (lv_at hl 1 rfl) ?_
    refine lv_iconst (v := (2)) hx hb dL_law_585 (by decide) ?_
    refine lv_iadd hx hb dL_law_586 ?_
    refine va_sld hx hb hX hbl hbA hS (hin 2 (by decide) (by decide)) dL_law_587 ?_
    refine z_callV (As := [.int (xs (iv + 1).toNatClampNeg), .int (xs (iv + 2).toNatClampNeg)]) (rest := []) ⟨hx, hb, hml, hown, hts⟩ (tX10_stick l Γ lo1 ee.2 q M [zOut Γ qo O] h10) (cwV 2 hts gL_law_X10_stick rfl rfl rfl (by decide +kernel) ⟨Nat.le_of_ble_eq_true rfl, Nat.le_of_ble_eq_true rfl⟩) (wd_x hW (k := 0) rfl) rfl hKK hW hS rfl hl.1 rfl (Nat.le_of_ble_eq_true rfl) dL_law_588 ⟨(by show cells + 1 + 0 ≤ 601024; omega), (by show slots + 6 + 0 ≤ 7293034; omega)⟩ (fun H locs hW hS _ _ => ?_)
    refine lv_istore (lv' := [(6, .int r), (5, .int (kL [1, 3] ee.1)), (4, .int iv), (3, .ref qo), (2, .ref (q 0)), (1, .ref (lo1 (10, 0, 0))), (0, .ref b)]) hx hb dL_law_591 hl (by decide) rfl (fun ls hl => ?_)
    refine lv_aload_n hx hb dL_law_593 rfl (lv_at hl 4 rfl) ?_
    refine z_callV (As := []) (rest := []) ⟨hx, hb, hml, hown, hts⟩ (tX10_thrown l Γ lo1 ee.2 q M1 [zOut Γ qo O] (show fX10_thrown M1 = some (M1 0 0) from rfl)) (cwV 0 hts gL_law_X10_thrown rfl rfl rfl (by decide +kernel) ⟨Nat.le_of_ble_eq_true rfl, Nat.le_of_ble_eq_true rfl⟩) (wd_x hW (k := 0) rfl) rfl hKK hW hS rfl hl.1 rfl (Nat.le_of_ble_eq_true rfl) dL_law_594 ⟨(by show cells + 1 + 0 + 0 ≤ 601024; omega), (by show slots + 6 + 0 + 0 ≤ 7293034; omega)⟩ (fun H locs hW hS _ _ => ?_)
    refine lv_iload hx hb dL_law_597 (lv_at hl 1 rfl) ?_
    refine lv_icmp_eq (tgt := 604) hx hb dL_law_599 (by decide) (fun _ => ?_) (fun k => absurd hth k)
    refine lv_iload hx hb dL_law_604 (lv_at hl 1 rfl) ?_
    refine lv_if_ne (tgt := 621) hx hb dL_law_606 (by decide) (fun _ => ?_) (fun k => absurd k (kL_ne _ _ hn (Nat.le_of_ble_eq_true rfl)))
    refine lv_goto (tgt := 2131) hx hb dL_law_621 (by decide) ?_
    refine W.widen (k := cells + 12) (n := slots + 2700) (by omega) (by omega) ?_
    exact kk lo1 ee.2 M1 O H locs ls hT1 hW hS (lv_sub hl [2, 3, 4, 5, 6] rfl)

set_option maxHeartbeats 4000000 in
set_option maxRecDepth 100000 in
theorem lw_c6 {p : Program} {e : Env} {s : State} {m : MethodId} {below : List Frame} {meth : Method} {c : Code} {Q : State → Prop} (l : Launch) (hl0 : l.stackTraces = false) {Γ : zG} {T : zSt → zMs → Prop} (hT : zSteps T) {b L : Nat} {xs : Nat → Int32} (C0 : lwC p s m meth c Γ b L xs) {lo : zId → Nat} {S : zSt} {q : Nat → Nat} {M : zMs} {qo : Nat} {O : Nat → Int64} {iv : Int32} {cells slots : Nat} {H : Heap} {locs : List Loc} {ls : Array Slot} (hTT : T S M) (hW : Wd Γ lo S (mcl Γ q M ++ [zOut Γ qo O]) H) (hS : va_S (zA Γ) s.heap H locs) (hl : lv_has ls 8 (lwLv lo (q 0) qo b iv)) (hin : ∀ k : Int32, 0 ≤ k → k ≤ 5 → vp_in (iv + k) L) (hc : cells + 12 ≤ 601024) (hs : slots + 2700 ≤ 7293034) (kk : ∀ (lo1 : zId → Nat) (S1 : zSt) (M1 : zMs) (O1 : Nat → Int64) (H1 : Heap) (locs1 : List Loc) (ls1 : Array Slot), T S1 M1 → Wd Γ lo1 S1 (mcl Γ q M1 ++ [zOut Γ qo O1]) H1 → va_S (zA Γ) s.heap H1 locs1 → lv_has ls1 8 (lwLv lo1 (q 0) qo b iv) → W p l e room_1 s m #[Value.ref b] below meth c H1 locs1 (cells + 12) (slots + 2700) Q (F0 m 2131 ls1 [])) : W p l e room_1 s m #[Value.ref b] below meth c H locs cells slots Q (F0 m 624 ls []) := by
  obtain ⟨hx, hb, hml, hown, hts, hX, hbl, hbA, hB0, hKK, hKX, hKY, hKN⟩ := C0
  have v_z : zV S (10, 0, 0) = true := hT.1 _ _ hTT
  have hl : lv_has ls 8 [(4, .int iv), (3, .ref qo), (2, .ref (q 0)), (1, .ref (lo (10, 0, 0))), (0, .ref b)] := hl
  refine lv_aload_n hx hb dL_law_624 rfl (lv_at hl 3 rfl) ?_
  refine lv_aload_n hx hb dL_law_625 rfl (lv_at hl 4 rfl) ?_
  refine lv_iload hx hb dL_law_626 (lv_at hl 0 rfl) ?_
  refine lv_iconst (v := (1)) hx hb dL_law_628 (by decide) ?_
  refine lv_iadd hx hb dL_law_629 ?_
  refine va_sld hx hb hX hbl hbA hS (hin 1 (by decide) (by decide)) dL_law_630 ?_
  refine lv_aload_n hx hb dL_law_631 rfl (lv_at hl 4 rfl) ?_
  refine lv_iload hx hb dL_law_632 (lv_at hl 0 rfl) ?_
  refine lv_iconst (v := (2)) hx hb dL_law_634 (by decide) ?_
  refine lv_iadd hx hb dL_law_635 ?_
  refine va_sld hx hb hX hbl hbA hS (hin 2 (by decide) (by decide)) dL_law_636 ?_
  refine lv_aload_n hx hb dL_law_637 rfl (lv_at hl 1 rfl) ?_
  rcases st_sticks hT S M (xs (iv + 1).toNatClampNeg) (xs (iv + 2).toNatClampNeg) hTT with ⟨y, r, M1, h9, h10, hth, hfv, hT1⟩ | ⟨ee, r, M1, h9, h10, hn, hth, hT1⟩
  · dsimp only at hfv hT1
    refine w_call (As := [.ref (lo (10, 0, 0)), .int (xs (iv + 1).toNatClampNeg), .int (xs (iv + 2).toNatClampNeg), .ref qo]) (rest := []) ⟨hx, hb, hml, hown, hts⟩ (tL_sticks l Γ lo S (mcl Γ q M) qo O v_z h9) (vx_cwSW 4 hts gL_law_L_sticks rfl rfl rfl (by decide +kernel) ⟨Nat.le_of_ble_eq_true rfl, Nat.le_of_ble_eq_true rfl⟩) hKK hKX hKY hKN hW hS rfl hl.1 rfl (Nat.le_of_ble_eq_true rfl) dL_law_638 ⟨(by show cells + 1 ≤ 601024; omega), (by show slots + 6 ≤ 7293034; omega)⟩ (fun lo1 H locs hW hS h1 hmo _ => ?_)
    rw [← h1 _ v_z] at hl
    refine lv_istore (lv' := [(5, .int (0 : Int32)), (4, .int iv), (3, .ref qo), (2, .ref (q 0)), (1, .ref (lo1 (10, 0, 0))), (0, .ref b)]) hx hb dL_law_641 hl (by decide) rfl (fun ls hl => ?_)
    refine lv_aload_n hx hb dL_law_643 rfl (lv_at hl 3 rfl) ?_
    refine lv_aload_n hx hb dL_law_644 rfl (lv_at hl 5 rfl) ?_
    refine lv_iload hx hb dL_law_645 (lv_at hl 1 rfl) ?_
    refine lv_iconst (v := (1)) hx hb dL_law_647 (by decide) ?_
    refine lv_iadd hx hb dL_law_648 ?_
    refine va_sld hx hb hX hbl hbA hS (hin 1 (by decide) (by decide)) dL_law_649 ?_
    refine lv_aload_n hx hb dL_law_650 rfl (lv_at hl 5 rfl) ?_
    refine lv_iload hx hb dL_law_651 (lv_at hl 1 rfl) ?_
    refine lv_iconst (v := (2)) hx hb dL_law_653 (by decide) ?_
    refine lv_iadd hx hb dL_law_654 ?_
    refine va_sld hx hb hX hbl hbA hS (hin 2 (by decide) (by decide)) dL_law_655 ?_
    refine z_callV (As := [.int (xs (iv + 1).toNatClampNeg), .int (xs (iv + 2).toNatClampNeg)]) (rest := []) ⟨hx, hb, hml, hown, hts⟩ (tX10_sticks l Γ lo1 S q M [zOut Γ qo (vp_updL O 0 (if y = 0 then (0 : Int64) else 1))] h10) (cwV 2 hts gL_law_X10_sticks rfl rfl rfl (by decide +kernel) ⟨Nat.le_of_ble_eq_true rfl, Nat.le_of_ble_eq_true rfl⟩) (wd_x hW (k := 0) rfl) rfl hKK hW hS rfl hl.1 rfl (Nat.le_of_ble_eq_true rfl) dL_law_656 ⟨(by show cells + 1 + 0 ≤ 601024; omega), (by show slots + 6 + 0 ≤ 7293034; omega)⟩ (fun H locs hW hS _ _ => ?_)
    refine lv_istore (lv' := [(6, .int r), (5, .int (0 : Int32)), (4, .int iv), (3, .ref qo), (2, .ref (q 0)), (1, .ref (lo1 (10, 0, 0))), (0, .ref b)]) hx hb dL_law_659 hl (by decide) rfl (fun ls hl => ?_)
    refine lv_aload_n hx hb dL_law_661 rfl (lv_at hl 4 rfl) ?_
    refine z_callV (As := []) (rest := []) ⟨hx, hb, hml, hown, hts⟩ (tX10_thrown l Γ lo1 S q M1 [zOut Γ qo (vp_updL O 0 (if y = 0 then (0 : Int64) else 1))] (show fX10_thrown M1 = some (M1 0 0) from rfl)) (cwV 0 hts gL_law_X10_thrown rfl rfl rfl (by decide +kernel) ⟨Nat.le_of_ble_eq_true rfl, Nat.le_of_ble_eq_true rfl⟩) (wd_x hW (k := 0) rfl) rfl hKK hW hS rfl hl.1 rfl (Nat.le_of_ble_eq_true rfl) dL_law_662 ⟨(by show cells + 1 + 0 + 0 ≤ 601024; omega), (by show slots + 6 + 0 + 0 ≤ 7293034; omega)⟩ (fun H locs hW hS _ _ => ?_)
    refine lv_iload hx hb dL_law_665 (lv_at hl 1 rfl) ?_
    refine lv_icmp_eq (tgt := 672) hx hb dL_law_667 (by decide) (fun _ => ?_) (fun k => absurd hth k)
    refine lv_iload hx hb dL_law_672 (lv_at hl 1 rfl) ?_
    refine lv_if_ne (tgt := 696) hx hb dL_law_674 (by decide) (fun k => absurd rfl k) (fun _ => ?_)
    refine lv_aload_n hx hb dL_law_677 rfl (lv_at hl 3 rfl) ?_
    refine lv_iconst (v := (0)) hx hb dL_law_678 (by decide) ?_
    refine va_lald hx hb hKK.1 (wd_x hW (k := 47) rfl) 0 1 (n := 1) rfl rfl (by unfold vp_in; decide) dL_law_679 ?_
    rw [show vp_updL O 0 (if y = 0 then (0 : Int64) else 1) (0 : Int32).toNatClampNeg = (if y = 0 then (0 : Int64) else 1) from rfl, hfv]
    refine lv_iload hx hb dL_law_680 (lv_at hl 0 rfl) ?_
    refine lv_if_eq (tgt := 689) hx hb dL_law_682 (by decide) (fun k => ?_) (fun k => ?_)
    · rw [if_pos k]
      refine lv_lconst (v := (0)) hx hb dL_law_689 (by decide) ?_
      refine W.lcmp hx hb dL_law_690 ?_
      rw [lg_same]
      refine lv_if_eq (tgt := 696) hx hb dL_law_691 (by decide) (fun _ => ?_) (fun k => absurd rfl k)
      refine lv_goto (tgt := 2131) hx hb dL_law_696 (by decide) ?_
      refine W.widen (k := cells + 12) (n := slots + 2700) (by omega) (by omega) ?_
      exact kk lo1 S M1 (vp_updL O 0 (if y = 0 then (0 : Int64) else 1)) H locs ls hT1 hW hS (lv_sub hl [2, 3, 4, 5, 6] rfl)
    · rw [if_neg k]
      refine lv_lconst (v := (1)) hx hb dL_law_685 (by decide) ?_
      refine lv_goto (tgt := 690) hx hb dL_law_686 (by decide) ?_
      refine W.lcmp hx hb dL_law_690 ?_
      rw [lg_same]
      refine lv_if_eq (tgt := 696) hx hb dL_law_691 (by decide) (fun _ => ?_) (fun k => absurd rfl k)
      refine lv_goto (tgt := 2131) hx hb dL_law_696 (by decide) ?_
      refine W.widen (k := cells + 12) (n := slots + 2700) (by omega) (by omega) ?_
      exact kk lo1 S M1 (vp_updL O 0 (if y = 0 then (0 : Int64) else 1)) H locs ls hT1 hW hS (lv_sub hl [2, 3, 4, 5, 6] rfl)
  · skip
    refine w_call (As := [.ref (lo (10, 0, 0)), .int (xs (iv + 1).toNatClampNeg), .int (xs (iv + 2).toNatClampNeg), .ref qo]) (rest := []) ⟨hx, hb, hml, hown, hts⟩ (uL_sticks l hl0 Γ lo S (mcl Γ q M) qo O v_z h9 (by simpa using hn)) (vx_cwSW 4 hts gL_law_L_sticks rfl rfl rfl (by decide +kernel) ⟨Nat.le_of_ble_eq_true rfl, Nat.le_of_ble_eq_true rfl⟩) hKK hKX hKY hKN hW hS rfl hl.1 rfl (Nat.le_of_ble_eq_true rfl) dL_law_638 ⟨(by show cells + 1 ≤ 601024; omega), (by show slots + 6 ≤ 7293034; omega)⟩ (fun lo1 H locs hW hS h1 hmo _ => ?_)
    rw [← h1 _ v_z] at hl
    refine lv_istore (lv' := [(5, .int (kL [1] ee.1)), (4, .int iv), (3, .ref qo), (2, .ref (q 0)), (1, .ref (lo1 (10, 0, 0))), (0, .ref b)]) hx hb dL_law_641 hl (by decide) rfl (fun ls hl => ?_)
    refine lv_aload_n hx hb dL_law_643 rfl (lv_at hl 3 rfl) ?_
    refine lv_aload_n hx hb dL_law_644 rfl (lv_at hl 5 rfl) ?_
    refine lv_iload hx hb dL_law_645 (lv_at hl 1 rfl) ?_
    refine lv_iconst (v := (1)) hx hb dL_law_647 (by decide) ?_
    refine lv_iadd hx hb dL_law_648 ?_
    refine va_sld hx hb hX hbl hbA hS (hin 1 (by decide) (by decide)) dL_law_649 ?_
    refine lv_aload_n hx hb dL_law_650 rfl (lv_at hl 5 rfl) ?_
    refine lv_iload hx hb dL_law_651 (lv_at hl 1 rfl) ?_
    refine lv_iconst (v := (2)) hx hb dL_law_653 (by decide) ?_
    refine lv_iadd hx hb dL_law_654 ?_
    refine va_sld hx hb hX hbl hbA hS (hin 2 (by decide) (by decide)) dL_law_655 ?_
    refine z_callV (As := [.int (xs (iv + 1).toNatClampNeg), .int (xs (iv + 2).toNatClampNeg)]) (rest := []) ⟨hx, hb, hml, hown, hts⟩ (tX10_sticks l Γ lo1 ee.2 q M [zOut Γ qo O] h10) (cwV 2 hts gL_law_X10_sticks rfl rfl rfl (by decide +kernel) ⟨Nat.le_of_ble_eq_true rfl, Nat.le_of_ble_eq_true rfl⟩) (wd_x hW (k := 0) rfl) rfl hKK hW hS rfl hl.1 rfl (Nat.le_of_ble_eq_true rfl) dL_law_656 ⟨(by show cells + 1 + 0 ≤ 601024; omega), (by show slots + 6 + 0 ≤ 7293034; omega)⟩ (fun H locs hW hS _ _ => ?_)
    refine lv_istore (lv' := [(6, .int r), (5, .int (kL [1] ee.1)), (4, .int iv), (3, .ref qo), (2, .ref (q 0)), (1, .ref (lo1 (10, 0, 0))), (0, .ref b)]) hx hb dL_law_659 hl (by decide) rfl (fun ls hl => ?_)
    refine lv_aload_n hx hb dL_law_661 rfl (lv_at hl 4 rfl) ?_
    refine z_callV (As := []) (rest := []) ⟨hx, hb, hml, hown, hts⟩ (tX10_thrown l Γ lo1 ee.2 q M1 [zOut Γ qo O] (show fX10_thrown M1 = some (M1 0 0) from rfl)) (cwV 0 hts gL_law_X10_thrown rfl rfl rfl (by decide +kernel) ⟨Nat.le_of_ble_eq_true rfl, Nat.le_of_ble_eq_true rfl⟩) (wd_x hW (k := 0) rfl) rfl hKK hW hS rfl hl.1 rfl (Nat.le_of_ble_eq_true rfl) dL_law_662 ⟨(by show cells + 1 + 0 + 0 ≤ 601024; omega), (by show slots + 6 + 0 + 0 ≤ 7293034; omega)⟩ (fun H locs hW hS _ _ => ?_)
    refine lv_iload hx hb dL_law_665 (lv_at hl 1 rfl) ?_
    refine lv_icmp_eq (tgt := 672) hx hb dL_law_667 (by decide) (fun _ => ?_) (fun k => absurd hth k)
    refine lv_iload hx hb dL_law_672 (lv_at hl 1 rfl) ?_
    refine lv_if_ne (tgt := 696) hx hb dL_law_674 (by decide) (fun _ => ?_) (fun k => absurd k (kL_ne _ _ hn (Nat.le_of_ble_eq_true rfl)))
    refine lv_goto (tgt := 2131) hx hb dL_law_696 (by decide) ?_
    refine W.widen (k := cells + 12) (n := slots + 2700) (by omega) (by omega) ?_
    exact kk lo1 ee.2 M1 O H locs ls hT1 hW hS (lv_sub hl [2, 3, 4, 5, 6] rfl)

set_option maxHeartbeats 4000000 in
set_option maxRecDepth 100000 in
theorem lw_c7 {p : Program} {e : Env} {s : State} {m : MethodId} {below : List Frame} {meth : Method} {c : Code} {Q : State → Prop} (l : Launch) (hl0 : l.stackTraces = false) {Γ : zG} {T : zSt → zMs → Prop} (hT : zSteps T) {b L : Nat} {xs : Nat → Int32} (C0 : lwC p s m meth c Γ b L xs) {lo : zId → Nat} {S : zSt} {q : Nat → Nat} {M : zMs} {qo : Nat} {O : Nat → Int64} {iv : Int32} {cells slots : Nat} {H : Heap} {locs : List Loc} {ls : Array Slot} (hTT : T S M) (hW : Wd Γ lo S (mcl Γ q M ++ [zOut Γ qo O]) H) (hS : va_S (zA Γ) s.heap H locs) (hl : lv_has ls 8 (lwLv lo (q 0) qo b iv)) (hin : ∀ k : Int32, 0 ≤ k → k ≤ 5 → vp_in (iv + k) L) (hc : cells + 12 ≤ 601024) (hs : slots + 2700 ≤ 7293034) (kk : ∀ (lo1 : zId → Nat) (S1 : zSt) (M1 : zMs) (O1 : Nat → Int64) (H1 : Heap) (locs1 : List Loc) (ls1 : Array Slot), T S1 M1 → Wd Γ lo1 S1 (mcl Γ q M1 ++ [zOut Γ qo O1]) H1 → va_S (zA Γ) s.heap H1 locs1 → lv_has ls1 8 (lwLv lo1 (q 0) qo b iv) → W p l e room_1 s m #[Value.ref b] below meth c H1 locs1 (cells + 12) (slots + 2700) Q (F0 m 2131 ls1 [])) : W p l e room_1 s m #[Value.ref b] below meth c H locs cells slots Q (F0 m 699 ls []) := by
  obtain ⟨hx, hb, hml, hown, hts, hX, hbl, hbA, hB0, hKK, hKX, hKY, hKN⟩ := C0
  have v_z : zV S (10, 0, 0) = true := hT.1 _ _ hTT
  have hl : lv_has ls 8 [(4, .int iv), (3, .ref qo), (2, .ref (q 0)), (1, .ref (lo (10, 0, 0))), (0, .ref b)] := hl
  refine lv_aload_n hx hb dL_law_699 rfl (lv_at hl 3 rfl) ?_
  refine lv_aload_n hx hb dL_law_700 rfl (lv_at hl 4 rfl) ?_
  refine lv_iload hx hb dL_law_701 (lv_at hl 0 rfl) ?_
  refine lv_iconst (v := (1)) hx hb dL_law_703 (by decide) ?_
  refine lv_iadd hx hb dL_law_704 ?_
  refine va_sld hx hb hX hbl hbA hS (hin 1 (by decide) (by decide)) dL_law_705 ?_
  refine lv_aload_n hx hb dL_law_706 rfl (lv_at hl 4 rfl) ?_
  refine lv_iload hx hb dL_law_707 (lv_at hl 0 rfl) ?_
  refine lv_iconst (v := (2)) hx hb dL_law_709 (by decide) ?_
  refine lv_iadd hx hb dL_law_710 ?_
  refine va_sld hx hb hX hbl hbA hS (hin 2 (by decide) (by decide)) dL_law_711 ?_
  refine lv_aload_n hx hb dL_law_712 rfl (lv_at hl 1 rfl) ?_
  rcases st_wear hT S M (xs (iv + 1).toNatClampNeg) (xs (iv + 2).toNatClampNeg) hTT with ⟨y, r, M1, h9, h10, hth, hfv, hT1⟩ | ⟨ee, r, M1, h9, h10, hn, hth, hT1⟩
  · dsimp only at hfv hT1
    refine w_call (As := [.ref (lo (10, 0, 0)), .int (xs (iv + 1).toNatClampNeg), .int (xs (iv + 2).toNatClampNeg), .ref qo]) (rest := []) ⟨hx, hb, hml, hown, hts⟩ (tL_wear l Γ lo S (mcl Γ q M) qo O v_z h9) (vx_cwSW 4 hts gL_law_L_wear rfl rfl rfl (by decide +kernel) ⟨Nat.le_of_ble_eq_true rfl, Nat.le_of_ble_eq_true rfl⟩) hKK hKX hKY hKN hW hS rfl hl.1 rfl (Nat.le_of_ble_eq_true rfl) dL_law_713 ⟨(by show cells + 1 ≤ 601024; omega), (by show slots + 6 ≤ 7293034; omega)⟩ (fun lo1 H locs hW hS h1 hmo _ => ?_)
    rw [← h1 _ v_z] at hl
    refine lv_istore (lv' := [(5, .int (0 : Int32)), (4, .int iv), (3, .ref qo), (2, .ref (q 0)), (1, .ref (lo1 (10, 0, 0))), (0, .ref b)]) hx hb dL_law_716 hl (by decide) rfl (fun ls hl => ?_)
    refine lv_aload_n hx hb dL_law_718 rfl (lv_at hl 3 rfl) ?_
    refine lv_aload_n hx hb dL_law_719 rfl (lv_at hl 5 rfl) ?_
    refine lv_iload hx hb dL_law_720 (lv_at hl 1 rfl) ?_
    refine lv_iconst (v := (1)) hx hb dL_law_722 (by decide) ?_
    refine lv_iadd hx hb dL_law_723 ?_
    refine va_sld hx hb hX hbl hbA hS (hin 1 (by decide) (by decide)) dL_law_724 ?_
    refine lv_aload_n hx hb dL_law_725 rfl (lv_at hl 5 rfl) ?_
    refine lv_iload hx hb dL_law_726 (lv_at hl 1 rfl) ?_
    refine lv_iconst (v := (2)) hx hb dL_law_728 (by decide) ?_
    refine lv_iadd hx hb dL_law_729 ?_
    refine va_sld hx hb hX hbl hbA hS (hin 2 (by decide) (by decide)) dL_law_730 ?_
    refine z_callV (As := [.int (xs (iv + 1).toNatClampNeg), .int (xs (iv + 2).toNatClampNeg)]) (rest := []) ⟨hx, hb, hml, hown, hts⟩ (tX10_wear l Γ lo1 S q M [zOut Γ qo (vp_updL O 0 (y).toInt64)] h10) (cwV 2 hts gL_law_X10_wear rfl rfl rfl (by decide +kernel) ⟨Nat.le_of_ble_eq_true rfl, Nat.le_of_ble_eq_true rfl⟩) (wd_x hW (k := 0) rfl) rfl hKK hW hS rfl hl.1 rfl (Nat.le_of_ble_eq_true rfl) dL_law_731 ⟨(by show cells + 1 + 0 ≤ 601024; omega), (by show slots + 6 + 0 ≤ 7293034; omega)⟩ (fun H locs hW hS _ _ => ?_)
    refine lv_istore (lv' := [(6, .int r), (5, .int (0 : Int32)), (4, .int iv), (3, .ref qo), (2, .ref (q 0)), (1, .ref (lo1 (10, 0, 0))), (0, .ref b)]) hx hb dL_law_734 hl (by decide) rfl (fun ls hl => ?_)
    refine lv_aload_n hx hb dL_law_736 rfl (lv_at hl 4 rfl) ?_
    refine z_callV (As := []) (rest := []) ⟨hx, hb, hml, hown, hts⟩ (tX10_thrown l Γ lo1 S q M1 [zOut Γ qo (vp_updL O 0 (y).toInt64)] (show fX10_thrown M1 = some (M1 0 0) from rfl)) (cwV 0 hts gL_law_X10_thrown rfl rfl rfl (by decide +kernel) ⟨Nat.le_of_ble_eq_true rfl, Nat.le_of_ble_eq_true rfl⟩) (wd_x hW (k := 0) rfl) rfl hKK hW hS rfl hl.1 rfl (Nat.le_of_ble_eq_true rfl) dL_law_737 ⟨(by show cells + 1 + 0 + 0 ≤ 601024; omega), (by show slots + 6 + 0 + 0 ≤ 7293034; omega)⟩ (fun H locs hW hS _ _ => ?_)
    refine lv_iload hx hb dL_law_740 (lv_at hl 1 rfl) ?_
    refine lv_icmp_eq (tgt := 747) hx hb dL_law_742 (by decide) (fun _ => ?_) (fun k => absurd hth k)
    refine lv_iload hx hb dL_law_747 (lv_at hl 1 rfl) ?_
    refine lv_if_ne (tgt := 764) hx hb dL_law_749 (by decide) (fun k => absurd rfl k) (fun _ => ?_)
    refine lv_aload_n hx hb dL_law_752 rfl (lv_at hl 3 rfl) ?_
    refine lv_iconst (v := (0)) hx hb dL_law_753 (by decide) ?_
    refine va_lald hx hb hKK.1 (wd_x hW (k := 47) rfl) 0 1 (n := 1) rfl rfl (by unfold vp_in; decide) dL_law_754 ?_
    rw [show vp_updL O 0 (y).toInt64 (0 : Int32).toNatClampNeg = (y).toInt64 from rfl, hfv]
    refine lv_iload hx hb dL_law_755 (lv_at hl 0 rfl) ?_
    refine lv_i2l hx hb dL_law_757 rfl ?_
    refine W.lcmp hx hb dL_law_758 ?_
    rw [lg_same]
    refine lv_if_eq (tgt := 764) hx hb dL_law_759 (by decide) (fun _ => ?_) (fun k => absurd rfl k)
    refine lv_goto (tgt := 2131) hx hb dL_law_764 (by decide) ?_
    refine W.widen (k := cells + 12) (n := slots + 2700) (by omega) (by omega) ?_
    exact kk lo1 S M1 (vp_updL O 0 (y).toInt64) H locs ls hT1 hW hS (lv_sub hl [2, 3, 4, 5, 6] rfl)
  · skip
    refine w_call (As := [.ref (lo (10, 0, 0)), .int (xs (iv + 1).toNatClampNeg), .int (xs (iv + 2).toNatClampNeg), .ref qo]) (rest := []) ⟨hx, hb, hml, hown, hts⟩ (uL_wear l hl0 Γ lo S (mcl Γ q M) qo O v_z h9 (by simpa using hn)) (vx_cwSW 4 hts gL_law_L_wear rfl rfl rfl (by decide +kernel) ⟨Nat.le_of_ble_eq_true rfl, Nat.le_of_ble_eq_true rfl⟩) hKK hKX hKY hKN hW hS rfl hl.1 rfl (Nat.le_of_ble_eq_true rfl) dL_law_713 ⟨(by show cells + 1 ≤ 601024; omega), (by show slots + 6 ≤ 7293034; omega)⟩ (fun lo1 H locs hW hS h1 hmo _ => ?_)
    rw [← h1 _ v_z] at hl
    refine lv_istore (lv' := [(5, .int (kL [1] ee.1)), (4, .int iv), (3, .ref qo), (2, .ref (q 0)), (1, .ref (lo1 (10, 0, 0))), (0, .ref b)]) hx hb dL_law_716 hl (by decide) rfl (fun ls hl => ?_)
    refine lv_aload_n hx hb dL_law_718 rfl (lv_at hl 3 rfl) ?_
    refine lv_aload_n hx hb dL_law_719 rfl (lv_at hl 5 rfl) ?_
    refine lv_iload hx hb dL_law_720 (lv_at hl 1 rfl) ?_
    refine lv_iconst (v := (1)) hx hb dL_law_722 (by decide) ?_
    refine lv_iadd hx hb dL_law_723 ?_
    refine va_sld hx hb hX hbl hbA hS (hin 1 (by decide) (by decide)) dL_law_724 ?_
    refine lv_aload_n hx hb dL_law_725 rfl (lv_at hl 5 rfl) ?_
    refine lv_iload hx hb dL_law_726 (lv_at hl 1 rfl) ?_
    refine lv_iconst (v := (2)) hx hb dL_law_728 (by decide) ?_
    refine lv_iadd hx hb dL_law_729 ?_
    refine va_sld hx hb hX hbl hbA hS (hin 2 (by decide) (by decide)) dL_law_730 ?_
    refine z_callV (As := [.int (xs (iv + 1).toNatClampNeg), .int (xs (iv + 2).toNatClampNeg)]) (rest := []) ⟨hx, hb, hml, hown, hts⟩ (tX10_wear l Γ lo1 ee.2 q M [zOut Γ qo O] h10) (cwV 2 hts gL_law_X10_wear rfl rfl rfl (by decide +kernel) ⟨Nat.le_of_ble_eq_true rfl, Nat.le_of_ble_eq_true rfl⟩) (wd_x hW (k := 0) rfl) rfl hKK hW hS rfl hl.1 rfl (Nat.le_of_ble_eq_true rfl) dL_law_731 ⟨(by show cells + 1 + 0 ≤ 601024; omega), (by show slots + 6 + 0 ≤ 7293034; omega)⟩ (fun H locs hW hS _ _ => ?_)
    refine lv_istore (lv' := [(6, .int r), (5, .int (kL [1] ee.1)), (4, .int iv), (3, .ref qo), (2, .ref (q 0)), (1, .ref (lo1 (10, 0, 0))), (0, .ref b)]) hx hb dL_law_734 hl (by decide) rfl (fun ls hl => ?_)
    refine lv_aload_n hx hb dL_law_736 rfl (lv_at hl 4 rfl) ?_
    refine z_callV (As := []) (rest := []) ⟨hx, hb, hml, hown, hts⟩ (tX10_thrown l Γ lo1 ee.2 q M1 [zOut Γ qo O] (show fX10_thrown M1 = some (M1 0 0) from rfl)) (cwV 0 hts gL_law_X10_thrown rfl rfl rfl (by decide +kernel) ⟨Nat.le_of_ble_eq_true rfl, Nat.le_of_ble_eq_true rfl⟩) (wd_x hW (k := 0) rfl) rfl hKK hW hS rfl hl.1 rfl (Nat.le_of_ble_eq_true rfl) dL_law_737 ⟨(by show cells + 1 + 0 + 0 ≤ 601024; omega), (by show slots + 6 + 0 + 0 ≤ 7293034; omega)⟩ (fun H locs hW hS _ _ => ?_)
    refine lv_iload hx hb dL_law_740 (lv_at hl 1 rfl) ?_
    refine lv_icmp_eq (tgt := 747) hx hb dL_law_742 (by decide) (fun _ => ?_) (fun k => absurd hth k)
    refine lv_iload hx hb dL_law_747 (lv_at hl 1 rfl) ?_
    refine lv_if_ne (tgt := 764) hx hb dL_law_749 (by decide) (fun _ => ?_) (fun k => absurd k (kL_ne _ _ hn (Nat.le_of_ble_eq_true rfl)))
    refine lv_goto (tgt := 2131) hx hb dL_law_764 (by decide) ?_
    refine W.widen (k := cells + 12) (n := slots + 2700) (by omega) (by omega) ?_
    exact kk lo1 ee.2 M1 O H locs ls hT1 hW hS (lv_sub hl [2, 3, 4, 5, 6] rfl)

set_option maxHeartbeats 4000000 in
set_option maxRecDepth 100000 in
theorem lw_c8 {p : Program} {e : Env} {s : State} {m : MethodId} {below : List Frame} {meth : Method} {c : Code} {Q : State → Prop} (l : Launch) (hl0 : l.stackTraces = false) {Γ : zG} {T : zSt → zMs → Prop} (hT : zSteps T) {b L : Nat} {xs : Nat → Int32} (C0 : lwC p s m meth c Γ b L xs) {lo : zId → Nat} {S : zSt} {q : Nat → Nat} {M : zMs} {qo : Nat} {O : Nat → Int64} {iv : Int32} {cells slots : Nat} {H : Heap} {locs : List Loc} {ls : Array Slot} (hTT : T S M) (hW : Wd Γ lo S (mcl Γ q M ++ [zOut Γ qo O]) H) (hS : va_S (zA Γ) s.heap H locs) (hl : lv_has ls 8 (lwLv lo (q 0) qo b iv)) (hin : ∀ k : Int32, 0 ≤ k → k ≤ 5 → vp_in (iv + k) L) (hc : cells + 12 ≤ 601024) (hs : slots + 2700 ≤ 7293034) (kk : ∀ (lo1 : zId → Nat) (S1 : zSt) (M1 : zMs) (O1 : Nat → Int64) (H1 : Heap) (locs1 : List Loc) (ls1 : Array Slot), T S1 M1 → Wd Γ lo1 S1 (mcl Γ q M1 ++ [zOut Γ qo O1]) H1 → va_S (zA Γ) s.heap H1 locs1 → lv_has ls1 8 (lwLv lo1 (q 0) qo b iv) → W p l e room_1 s m #[Value.ref b] below meth c H1 locs1 (cells + 12) (slots + 2700) Q (F0 m 2131 ls1 [])) : W p l e room_1 s m #[Value.ref b] below meth c H locs cells slots Q (F0 m 767 ls []) := by
  obtain ⟨hx, hb, hml, hown, hts, hX, hbl, hbA, hB0, hKK, hKX, hKY, hKN⟩ := C0
  have v_z : zV S (10, 0, 0) = true := hT.1 _ _ hTT
  have hl : lv_has ls 8 [(4, .int iv), (3, .ref qo), (2, .ref (q 0)), (1, .ref (lo (10, 0, 0))), (0, .ref b)] := hl
  refine lv_aload_n hx hb dL_law_767 rfl (lv_at hl 3 rfl) ?_
  refine lv_aload_n hx hb dL_law_768 rfl (lv_at hl 4 rfl) ?_
  refine lv_iload hx hb dL_law_769 (lv_at hl 0 rfl) ?_
  refine lv_iconst (v := (1)) hx hb dL_law_771 (by decide) ?_
  refine lv_iadd hx hb dL_law_772 ?_
  refine va_sld hx hb hX hbl hbA hS (hin 1 (by decide) (by decide)) dL_law_773 ?_
  refine lv_aload_n hx hb dL_law_774 rfl (lv_at hl 1 rfl) ?_
  rcases st_coin hT S M (xs (iv + 1).toNatClampNeg) hTT with ⟨y, r, M1, h9, h10, hth, hfv, hT1⟩ | ⟨ee, r, M1, h9, h10, hn, hth, hT1⟩
  · dsimp only at hfv hT1
    refine w_call (As := [.ref (lo (10, 0, 0)), .int (xs (iv + 1).toNatClampNeg), .ref qo]) (rest := []) ⟨hx, hb, hml, hown, hts⟩ (tL_coin l Γ lo S (mcl Γ q M) qo O v_z h9) (vx_cwSW 3 hts gL_law_L_coin rfl rfl rfl (by decide +kernel) ⟨Nat.le_of_ble_eq_true rfl, Nat.le_of_ble_eq_true rfl⟩) hKK hKX hKY hKN hW hS rfl hl.1 rfl (Nat.le_of_ble_eq_true rfl) dL_law_775 ⟨(by show cells + 9 ≤ 601024; omega), (by show slots + 2614 ≤ 7293034; omega)⟩ (fun lo1 H locs hW hS h1 hmo _ => ?_)
    rw [← h1 _ v_z] at hl
    refine lv_istore (lv' := [(5, .int (0 : Int32)), (4, .int iv), (3, .ref qo), (2, .ref (q 0)), (1, .ref (lo1 (10, 0, 0))), (0, .ref b)]) hx hb dL_law_778 hl (by decide) rfl (fun ls hl => ?_)
    refine lv_aload_n hx hb dL_law_780 rfl (lv_at hl 3 rfl) ?_
    refine lv_aload_n hx hb dL_law_781 rfl (lv_at hl 5 rfl) ?_
    refine lv_iload hx hb dL_law_782 (lv_at hl 1 rfl) ?_
    refine lv_iconst (v := (1)) hx hb dL_law_784 (by decide) ?_
    refine lv_iadd hx hb dL_law_785 ?_
    refine va_sld hx hb hX hbl hbA hS (hin 1 (by decide) (by decide)) dL_law_786 ?_
    refine z_callV (As := [.int (xs (iv + 1).toNatClampNeg)]) (rest := []) ⟨hx, hb, hml, hown, hts⟩ (tX10_coin l Γ lo1 y.2 q M [zOut Γ qo (vp_updL O 0 (y.1).toInt64)] h10) (cwV 1 hts gL_law_X10_coin rfl rfl rfl (by decide +kernel) ⟨Nat.le_of_ble_eq_true rfl, Nat.le_of_ble_eq_true rfl⟩) (wd_x hW (k := 0) rfl) rfl hKK hW hS rfl hl.1 rfl (Nat.le_of_ble_eq_true rfl) dL_law_787 ⟨(by show cells + 9 + 0 ≤ 601024; omega), (by show slots + 2614 + 0 ≤ 7293034; omega)⟩ (fun H locs hW hS _ _ => ?_)
    refine lv_istore (lv' := [(6, .int r), (5, .int (0 : Int32)), (4, .int iv), (3, .ref qo), (2, .ref (q 0)), (1, .ref (lo1 (10, 0, 0))), (0, .ref b)]) hx hb dL_law_790 hl (by decide) rfl (fun ls hl => ?_)
    refine lv_aload_n hx hb dL_law_792 rfl (lv_at hl 4 rfl) ?_
    refine z_callV (As := []) (rest := []) ⟨hx, hb, hml, hown, hts⟩ (tX10_thrown l Γ lo1 y.2 q M1 [zOut Γ qo (vp_updL O 0 (y.1).toInt64)] (show fX10_thrown M1 = some (M1 0 0) from rfl)) (cwV 0 hts gL_law_X10_thrown rfl rfl rfl (by decide +kernel) ⟨Nat.le_of_ble_eq_true rfl, Nat.le_of_ble_eq_true rfl⟩) (wd_x hW (k := 0) rfl) rfl hKK hW hS rfl hl.1 rfl (Nat.le_of_ble_eq_true rfl) dL_law_793 ⟨(by show cells + 9 + 0 + 0 ≤ 601024; omega), (by show slots + 2614 + 0 + 0 ≤ 7293034; omega)⟩ (fun H locs hW hS _ _ => ?_)
    refine lv_iload hx hb dL_law_796 (lv_at hl 1 rfl) ?_
    refine lv_icmp_eq (tgt := 803) hx hb dL_law_798 (by decide) (fun _ => ?_) (fun k => absurd hth k)
    refine lv_iload hx hb dL_law_803 (lv_at hl 1 rfl) ?_
    refine lv_if_ne (tgt := 820) hx hb dL_law_805 (by decide) (fun k => absurd rfl k) (fun _ => ?_)
    refine lv_aload_n hx hb dL_law_808 rfl (lv_at hl 3 rfl) ?_
    refine lv_iconst (v := (0)) hx hb dL_law_809 (by decide) ?_
    refine va_lald hx hb hKK.1 (wd_x hW (k := 47) rfl) 0 1 (n := 1) rfl rfl (by unfold vp_in; decide) dL_law_810 ?_
    rw [show vp_updL O 0 (y.1).toInt64 (0 : Int32).toNatClampNeg = (y.1).toInt64 from rfl, hfv]
    refine lv_iload hx hb dL_law_811 (lv_at hl 0 rfl) ?_
    refine lv_i2l hx hb dL_law_813 rfl ?_
    refine W.lcmp hx hb dL_law_814 ?_
    rw [lg_same]
    refine lv_if_eq (tgt := 820) hx hb dL_law_815 (by decide) (fun _ => ?_) (fun k => absurd rfl k)
    refine lv_goto (tgt := 2131) hx hb dL_law_820 (by decide) ?_
    refine W.widen (k := cells + 12) (n := slots + 2700) (by omega) (by omega) ?_
    exact kk lo1 y.2 M1 (vp_updL O 0 (y.1).toInt64) H locs ls hT1 hW hS (lv_sub hl [2, 3, 4, 5, 6] rfl)
  · skip
    refine w_call (As := [.ref (lo (10, 0, 0)), .int (xs (iv + 1).toNatClampNeg), .ref qo]) (rest := []) ⟨hx, hb, hml, hown, hts⟩ (uL_coin l hl0 Γ lo S (mcl Γ q M) qo O v_z h9 (by simpa using hn)) (vx_cwSW 3 hts gL_law_L_coin rfl rfl rfl (by decide +kernel) ⟨Nat.le_of_ble_eq_true rfl, Nat.le_of_ble_eq_true rfl⟩) hKK hKX hKY hKN hW hS rfl hl.1 rfl (Nat.le_of_ble_eq_true rfl) dL_law_775 ⟨(by show cells + 9 ≤ 601024; omega), (by show slots + 2614 ≤ 7293034; omega)⟩ (fun lo1 H locs hW hS h1 hmo _ => ?_)
    rw [← h1 _ v_z] at hl
    refine lv_istore (lv' := [(5, .int (kL [1, 3] ee.1)), (4, .int iv), (3, .ref qo), (2, .ref (q 0)), (1, .ref (lo1 (10, 0, 0))), (0, .ref b)]) hx hb dL_law_778 hl (by decide) rfl (fun ls hl => ?_)
    refine lv_aload_n hx hb dL_law_780 rfl (lv_at hl 3 rfl) ?_
    refine lv_aload_n hx hb dL_law_781 rfl (lv_at hl 5 rfl) ?_
    refine lv_iload hx hb dL_law_782 (lv_at hl 1 rfl) ?_
    refine lv_iconst (v := (1)) hx hb dL_law_784 (by decide) ?_
    refine lv_iadd hx hb dL_law_785 ?_
    refine va_sld hx hb hX hbl hbA hS (hin 1 (by decide) (by decide)) dL_law_786 ?_
    refine z_callV (As := [.int (xs (iv + 1).toNatClampNeg)]) (rest := []) ⟨hx, hb, hml, hown, hts⟩ (tX10_coin l Γ lo1 ee.2 q M [zOut Γ qo O] h10) (cwV 1 hts gL_law_X10_coin rfl rfl rfl (by decide +kernel) ⟨Nat.le_of_ble_eq_true rfl, Nat.le_of_ble_eq_true rfl⟩) (wd_x hW (k := 0) rfl) rfl hKK hW hS rfl hl.1 rfl (Nat.le_of_ble_eq_true rfl) dL_law_787 ⟨(by show cells + 9 + 0 ≤ 601024; omega), (by show slots + 2614 + 0 ≤ 7293034; omega)⟩ (fun H locs hW hS _ _ => ?_)
    refine lv_istore (lv' := [(6, .int r), (5, .int (kL [1, 3] ee.1)), (4, .int iv), (3, .ref qo), (2, .ref (q 0)), (1, .ref (lo1 (10, 0, 0))), (0, .ref b)]) hx hb dL_law_790 hl (by decide) rfl (fun ls hl => ?_)
    refine lv_aload_n hx hb dL_law_792 rfl (lv_at hl 4 rfl) ?_
    refine z_callV (As := []) (rest := []) ⟨hx, hb, hml, hown, hts⟩ (tX10_thrown l Γ lo1 ee.2 q M1 [zOut Γ qo O] (show fX10_thrown M1 = some (M1 0 0) from rfl)) (cwV 0 hts gL_law_X10_thrown rfl rfl rfl (by decide +kernel) ⟨Nat.le_of_ble_eq_true rfl, Nat.le_of_ble_eq_true rfl⟩) (wd_x hW (k := 0) rfl) rfl hKK hW hS rfl hl.1 rfl (Nat.le_of_ble_eq_true rfl) dL_law_793 ⟨(by show cells + 9 + 0 + 0 ≤ 601024; omega), (by show slots + 2614 + 0 + 0 ≤ 7293034; omega)⟩ (fun H locs hW hS _ _ => ?_)
    refine lv_iload hx hb dL_law_796 (lv_at hl 1 rfl) ?_
    refine lv_icmp_eq (tgt := 803) hx hb dL_law_798 (by decide) (fun _ => ?_) (fun k => absurd hth k)
    refine lv_iload hx hb dL_law_803 (lv_at hl 1 rfl) ?_
    refine lv_if_ne (tgt := 820) hx hb dL_law_805 (by decide) (fun _ => ?_) (fun k => absurd k (kL_ne _ _ hn (Nat.le_of_ble_eq_true rfl)))
    refine lv_goto (tgt := 2131) hx hb dL_law_820 (by decide) ?_
    refine W.widen (k := cells + 12) (n := slots + 2700) (by omega) (by omega) ?_
    exact kk lo1 ee.2 M1 O H locs ls hT1 hW hS (lv_sub hl [2, 3, 4, 5, 6] rfl)

set_option maxHeartbeats 4000000 in
set_option maxRecDepth 100000 in
theorem lw_c9 {p : Program} {e : Env} {s : State} {m : MethodId} {below : List Frame} {meth : Method} {c : Code} {Q : State → Prop} (l : Launch) (hl0 : l.stackTraces = false) {Γ : zG} {T : zSt → zMs → Prop} (hT : zSteps T) {b L : Nat} {xs : Nat → Int32} (C0 : lwC p s m meth c Γ b L xs) {lo : zId → Nat} {S : zSt} {q : Nat → Nat} {M : zMs} {qo : Nat} {O : Nat → Int64} {iv : Int32} {cells slots : Nat} {H : Heap} {locs : List Loc} {ls : Array Slot} (hTT : T S M) (hW : Wd Γ lo S (mcl Γ q M ++ [zOut Γ qo O]) H) (hS : va_S (zA Γ) s.heap H locs) (hl : lv_has ls 8 (lwLv lo (q 0) qo b iv)) (hin : ∀ k : Int32, 0 ≤ k → k ≤ 5 → vp_in (iv + k) L) (hc : cells + 12 ≤ 601024) (hs : slots + 2700 ≤ 7293034) (kk : ∀ (lo1 : zId → Nat) (S1 : zSt) (M1 : zMs) (O1 : Nat → Int64) (H1 : Heap) (locs1 : List Loc) (ls1 : Array Slot), T S1 M1 → Wd Γ lo1 S1 (mcl Γ q M1 ++ [zOut Γ qo O1]) H1 → va_S (zA Γ) s.heap H1 locs1 → lv_has ls1 8 (lwLv lo1 (q 0) qo b iv) → W p l e room_1 s m #[Value.ref b] below meth c H1 locs1 (cells + 12) (slots + 2700) Q (F0 m 2131 ls1 [])) : W p l e room_1 s m #[Value.ref b] below meth c H locs cells slots Q (F0 m 823 ls []) := by
  obtain ⟨hx, hb, hml, hown, hts, hX, hbl, hbA, hB0, hKK, hKX, hKY, hKN⟩ := C0
  have v_z : zV S (10, 0, 0) = true := hT.1 _ _ hTT
  have hl : lv_has ls 8 [(4, .int iv), (3, .ref qo), (2, .ref (q 0)), (1, .ref (lo (10, 0, 0))), (0, .ref b)] := hl
  refine lv_aload_n hx hb dL_law_823 rfl (lv_at hl 3 rfl) ?_
  refine lv_aload_n hx hb dL_law_824 rfl (lv_at hl 4 rfl) ?_
  refine lv_iload hx hb dL_law_825 (lv_at hl 0 rfl) ?_
  refine lv_iconst (v := (1)) hx hb dL_law_827 (by decide) ?_
  refine lv_iadd hx hb dL_law_828 ?_
  refine va_sld hx hb hX hbl hbA hS (hin 1 (by decide) (by decide)) dL_law_829 ?_
  refine lv_aload_n hx hb dL_law_830 rfl (lv_at hl 4 rfl) ?_
  refine lv_iload hx hb dL_law_831 (lv_at hl 0 rfl) ?_
  refine lv_iconst (v := (2)) hx hb dL_law_833 (by decide) ?_
  refine lv_iadd hx hb dL_law_834 ?_
  refine va_sld hx hb hX hbl hbA hS (hin 2 (by decide) (by decide)) dL_law_835 ?_
  refine lv_aload_n hx hb dL_law_836 rfl (lv_at hl 4 rfl) ?_
  refine lv_iload hx hb dL_law_837 (lv_at hl 0 rfl) ?_
  refine lv_iconst (v := (3)) hx hb dL_law_839 (by decide) ?_
  refine lv_iadd hx hb dL_law_840 ?_
  refine va_sld hx hb hX hbl hbA hS (hin 3 (by decide) (by decide)) dL_law_841 ?_
  refine lv_aload_n hx hb dL_law_842 rfl (lv_at hl 4 rfl) ?_
  refine lv_iload hx hb dL_law_843 (lv_at hl 0 rfl) ?_
  refine lv_iconst (v := (4)) hx hb dL_law_845 (by decide) ?_
  refine lv_iadd hx hb dL_law_846 ?_
  refine va_sld hx hb hX hbl hbA hS (hin 4 (by decide) (by decide)) dL_law_847 ?_
  refine lv_aload_n hx hb dL_law_848 rfl (lv_at hl 1 rfl) ?_
  rcases st_shoot hT S M (xs (iv + 1).toNatClampNeg) (xs (iv + 2).toNatClampNeg) (xs (iv + 3).toNatClampNeg) (xs (iv + 4).toNatClampNeg) hTT with ⟨y, r, M1, h9, h10, hth, hfv, hT1⟩ | ⟨ee, r, M1, h9, h10, hn, hth, hT1⟩
  · dsimp only at hfv hT1
    refine w_call (As := [.ref (lo (10, 0, 0)), .int (xs (iv + 1).toNatClampNeg), .int (xs (iv + 2).toNatClampNeg), .int (xs (iv + 3).toNatClampNeg), .int (xs (iv + 4).toNatClampNeg), .ref qo]) (rest := []) ⟨hx, hb, hml, hown, hts⟩ (tL_shoot l Γ lo S (mcl Γ q M) qo O v_z h9) (vx_cwSW 6 hts gL_law_L_shoot rfl rfl rfl (by decide +kernel) ⟨Nat.le_of_ble_eq_true rfl, Nat.le_of_ble_eq_true rfl⟩) hKK hKX hKY hKN hW hS rfl hl.1 rfl (Nat.le_of_ble_eq_true rfl) dL_law_849 ⟨(by show cells + 1 ≤ 601024; omega), (by show slots + 6 ≤ 7293034; omega)⟩ (fun lo1 H locs hW hS h1 hmo _ => ?_)
    rw [← h1 _ v_z] at hl
    have hW := wd_drop hW (1, 0, 0) (fun d _ => tg_ball _ d)
    refine lv_istore (lv' := [(5, .int (0 : Int32)), (4, .int iv), (3, .ref qo), (2, .ref (q 0)), (1, .ref (lo1 (10, 0, 0))), (0, .ref b)]) hx hb dL_law_852 hl (by decide) rfl (fun ls hl => ?_)
    refine lv_aload_n hx hb dL_law_854 rfl (lv_at hl 3 rfl) ?_
    refine lv_aload_n hx hb dL_law_855 rfl (lv_at hl 5 rfl) ?_
    refine lv_iload hx hb dL_law_856 (lv_at hl 1 rfl) ?_
    refine lv_iconst (v := (1)) hx hb dL_law_858 (by decide) ?_
    refine lv_iadd hx hb dL_law_859 ?_
    refine va_sld hx hb hX hbl hbA hS (hin 1 (by decide) (by decide)) dL_law_860 ?_
    refine lv_aload_n hx hb dL_law_861 rfl (lv_at hl 5 rfl) ?_
    refine lv_iload hx hb dL_law_862 (lv_at hl 1 rfl) ?_
    refine lv_iconst (v := (2)) hx hb dL_law_864 (by decide) ?_
    refine lv_iadd hx hb dL_law_865 ?_
    refine va_sld hx hb hX hbl hbA hS (hin 2 (by decide) (by decide)) dL_law_866 ?_
    refine lv_aload_n hx hb dL_law_867 rfl (lv_at hl 5 rfl) ?_
    refine lv_iload hx hb dL_law_868 (lv_at hl 1 rfl) ?_
    refine lv_iconst (v := (3)) hx hb dL_law_870 (by decide) ?_
    refine lv_iadd hx hb dL_law_871 ?_
    refine va_sld hx hb hX hbl hbA hS (hin 3 (by decide) (by decide)) dL_law_872 ?_
    refine lv_aload_n hx hb dL_law_873 rfl (lv_at hl 5 rfl) ?_
    refine lv_iload hx hb dL_law_874 (lv_at hl 1 rfl) ?_
    refine lv_iconst (v := (4)) hx hb dL_law_876 (by decide) ?_
    refine lv_iadd hx hb dL_law_877 ?_
    refine va_sld hx hb hX hbl hbA hS (hin 4 (by decide) (by decide)) dL_law_878 ?_
    refine z_callV (As := [.int (xs (iv + 1).toNatClampNeg), .int (xs (iv + 2).toNatClampNeg), .int (xs (iv + 3).toNatClampNeg), .int (xs (iv + 4).toNatClampNeg)]) (rest := []) ⟨hx, hb, hml, hown, hts⟩ (tX10_shoot l Γ lo1 (pV y.2 (1, 0, 0) false) q M [zOut Γ qo (vp_updL O 0 (y.1).toInt64)] h10) (cwV 4 hts gL_law_X10_shoot rfl rfl rfl (by decide +kernel) ⟨Nat.le_of_ble_eq_true rfl, Nat.le_of_ble_eq_true rfl⟩) (wd_x hW (k := 0) rfl) rfl hKK hW hS rfl hl.1 rfl (Nat.le_of_ble_eq_true rfl) dL_law_879 ⟨(by show cells + 1 + 0 ≤ 601024; omega), (by show slots + 6 + 0 ≤ 7293034; omega)⟩ (fun H locs hW hS _ _ => ?_)
    refine lv_istore (lv' := [(6, .int r), (5, .int (0 : Int32)), (4, .int iv), (3, .ref qo), (2, .ref (q 0)), (1, .ref (lo1 (10, 0, 0))), (0, .ref b)]) hx hb dL_law_882 hl (by decide) rfl (fun ls hl => ?_)
    refine lv_aload_n hx hb dL_law_884 rfl (lv_at hl 4 rfl) ?_
    refine z_callV (As := []) (rest := []) ⟨hx, hb, hml, hown, hts⟩ (tX10_thrown l Γ lo1 (pV y.2 (1, 0, 0) false) q M1 [zOut Γ qo (vp_updL O 0 (y.1).toInt64)] (show fX10_thrown M1 = some (M1 0 0) from rfl)) (cwV 0 hts gL_law_X10_thrown rfl rfl rfl (by decide +kernel) ⟨Nat.le_of_ble_eq_true rfl, Nat.le_of_ble_eq_true rfl⟩) (wd_x hW (k := 0) rfl) rfl hKK hW hS rfl hl.1 rfl (Nat.le_of_ble_eq_true rfl) dL_law_885 ⟨(by show cells + 1 + 0 + 0 ≤ 601024; omega), (by show slots + 6 + 0 + 0 ≤ 7293034; omega)⟩ (fun H locs hW hS _ _ => ?_)
    refine lv_iload hx hb dL_law_888 (lv_at hl 1 rfl) ?_
    refine lv_icmp_eq (tgt := 895) hx hb dL_law_890 (by decide) (fun _ => ?_) (fun k => absurd hth k)
    refine lv_iload hx hb dL_law_895 (lv_at hl 1 rfl) ?_
    refine lv_if_ne (tgt := 912) hx hb dL_law_897 (by decide) (fun k => absurd rfl k) (fun _ => ?_)
    refine lv_aload_n hx hb dL_law_900 rfl (lv_at hl 3 rfl) ?_
    refine lv_iconst (v := (0)) hx hb dL_law_901 (by decide) ?_
    refine va_lald hx hb hKK.1 (wd_x hW (k := 47) rfl) 0 1 (n := 1) rfl rfl (by unfold vp_in; decide) dL_law_902 ?_
    rw [show vp_updL O 0 (y.1).toInt64 (0 : Int32).toNatClampNeg = (y.1).toInt64 from rfl, hfv]
    refine lv_iload hx hb dL_law_903 (lv_at hl 0 rfl) ?_
    refine lv_i2l hx hb dL_law_905 rfl ?_
    refine W.lcmp hx hb dL_law_906 ?_
    rw [lg_same]
    refine lv_if_eq (tgt := 912) hx hb dL_law_907 (by decide) (fun _ => ?_) (fun k => absurd rfl k)
    refine lv_goto (tgt := 2131) hx hb dL_law_912 (by decide) ?_
    refine W.widen (k := cells + 12) (n := slots + 2700) (by omega) (by omega) ?_
    exact kk lo1 (pV y.2 (1, 0, 0) false) M1 (vp_updL O 0 (y.1).toInt64) H locs ls hT1 hW hS (lv_sub hl [2, 3, 4, 5, 6] rfl)
  · skip
    refine w_call (As := [.ref (lo (10, 0, 0)), .int (xs (iv + 1).toNatClampNeg), .int (xs (iv + 2).toNatClampNeg), .int (xs (iv + 3).toNatClampNeg), .int (xs (iv + 4).toNatClampNeg), .ref qo]) (rest := []) ⟨hx, hb, hml, hown, hts⟩ (uL_shoot l hl0 Γ lo S (mcl Γ q M) qo O v_z h9 (by simpa using hn)) (vx_cwSW 6 hts gL_law_L_shoot rfl rfl rfl (by decide +kernel) ⟨Nat.le_of_ble_eq_true rfl, Nat.le_of_ble_eq_true rfl⟩) hKK hKX hKY hKN hW hS rfl hl.1 rfl (Nat.le_of_ble_eq_true rfl) dL_law_849 ⟨(by show cells + 1 ≤ 601024; omega), (by show slots + 6 ≤ 7293034; omega)⟩ (fun lo1 H locs hW hS h1 hmo _ => ?_)
    rw [← h1 _ v_z] at hl
    refine lv_istore (lv' := [(5, .int (kL [1, 2, 3] ee.1)), (4, .int iv), (3, .ref qo), (2, .ref (q 0)), (1, .ref (lo1 (10, 0, 0))), (0, .ref b)]) hx hb dL_law_852 hl (by decide) rfl (fun ls hl => ?_)
    refine lv_aload_n hx hb dL_law_854 rfl (lv_at hl 3 rfl) ?_
    refine lv_aload_n hx hb dL_law_855 rfl (lv_at hl 5 rfl) ?_
    refine lv_iload hx hb dL_law_856 (lv_at hl 1 rfl) ?_
    refine lv_iconst (v := (1)) hx hb dL_law_858 (by decide) ?_
    refine lv_iadd hx hb dL_law_859 ?_
    refine va_sld hx hb hX hbl hbA hS (hin 1 (by decide) (by decide)) dL_law_860 ?_
    refine lv_aload_n hx hb dL_law_861 rfl (lv_at hl 5 rfl) ?_
    refine lv_iload hx hb dL_law_862 (lv_at hl 1 rfl) ?_
    refine lv_iconst (v := (2)) hx hb dL_law_864 (by decide) ?_
    refine lv_iadd hx hb dL_law_865 ?_
    refine va_sld hx hb hX hbl hbA hS (hin 2 (by decide) (by decide)) dL_law_866 ?_
    refine lv_aload_n hx hb dL_law_867 rfl (lv_at hl 5 rfl) ?_
    refine lv_iload hx hb dL_law_868 (lv_at hl 1 rfl) ?_
    refine lv_iconst (v := (3)) hx hb dL_law_870 (by decide) ?_
    refine lv_iadd hx hb dL_law_871 ?_
    refine va_sld hx hb hX hbl hbA hS (hin 3 (by decide) (by decide)) dL_law_872 ?_
    refine lv_aload_n hx hb dL_law_873 rfl (lv_at hl 5 rfl) ?_
    refine lv_iload hx hb dL_law_874 (lv_at hl 1 rfl) ?_
    refine lv_iconst (v := (4)) hx hb dL_law_876 (by decide) ?_
    refine lv_iadd hx hb dL_law_877 ?_
    refine va_sld hx hb hX hbl hbA hS (hin 4 (by decide) (by decide)) dL_law_878 ?_
    refine z_callV (As := [.int (xs (iv + 1).toNatClampNeg), .int (xs (iv + 2).toNatClampNeg), .int (xs (iv + 3).toNatClampNeg), .int (xs (iv + 4).toNatClampNeg)]) (rest := []) ⟨hx, hb, hml, hown, hts⟩ (tX10_shoot l Γ lo1 ee.2 q M [zOut Γ qo O] h10) (cwV 4 hts gL_law_X10_shoot rfl rfl rfl (by decide +kernel) ⟨Nat.le_of_ble_eq_true rfl, Nat.le_of_ble_eq_true rfl⟩) (wd_x hW (k := 0) rfl) rfl hKK hW hS rfl hl.1 rfl (Nat.le_of_ble_eq_true rfl) dL_law_879 ⟨(by show cells + 1 + 0 ≤ 601024; omega), (by show slots + 6 + 0 ≤ 7293034; omega)⟩ (fun H locs hW hS _ _ => ?_)
    refine lv_istore (lv' := [(6, .int r), (5, .int (kL [1, 2, 3] ee.1)), (4, .int iv), (3, .ref qo), (2, .ref (q 0)), (1, .ref (lo1 (10, 0, 0))), (0, .ref b)]) hx hb dL_law_882 hl (by decide) rfl (fun ls hl => ?_)
    refine lv_aload_n hx hb dL_law_884 rfl (lv_at hl 4 rfl) ?_
    refine z_callV (As := []) (rest := []) ⟨hx, hb, hml, hown, hts⟩ (tX10_thrown l Γ lo1 ee.2 q M1 [zOut Γ qo O] (show fX10_thrown M1 = some (M1 0 0) from rfl)) (cwV 0 hts gL_law_X10_thrown rfl rfl rfl (by decide +kernel) ⟨Nat.le_of_ble_eq_true rfl, Nat.le_of_ble_eq_true rfl⟩) (wd_x hW (k := 0) rfl) rfl hKK hW hS rfl hl.1 rfl (Nat.le_of_ble_eq_true rfl) dL_law_885 ⟨(by show cells + 1 + 0 + 0 ≤ 601024; omega), (by show slots + 6 + 0 + 0 ≤ 7293034; omega)⟩ (fun H locs hW hS _ _ => ?_)
    refine lv_iload hx hb dL_law_888 (lv_at hl 1 rfl) ?_
    refine lv_icmp_eq (tgt := 895) hx hb dL_law_890 (by decide) (fun _ => ?_) (fun k => absurd hth k)
    refine lv_iload hx hb dL_law_895 (lv_at hl 1 rfl) ?_
    refine lv_if_ne (tgt := 912) hx hb dL_law_897 (by decide) (fun _ => ?_) (fun k => absurd k (kL_ne _ _ hn (Nat.le_of_ble_eq_true rfl)))
    refine lv_goto (tgt := 2131) hx hb dL_law_912 (by decide) ?_
    refine W.widen (k := cells + 12) (n := slots + 2700) (by omega) (by omega) ?_
    exact kk lo1 ee.2 M1 O H locs ls hT1 hW hS (lv_sub hl [2, 3, 4, 5, 6] rfl)

set_option maxHeartbeats 4000000 in
set_option maxRecDepth 100000 in
theorem lw_c10 {p : Program} {e : Env} {s : State} {m : MethodId} {below : List Frame} {meth : Method} {c : Code} {Q : State → Prop} (l : Launch) (hl0 : l.stackTraces = false) {Γ : zG} {T : zSt → zMs → Prop} (hT : zSteps T) {b L : Nat} {xs : Nat → Int32} (C0 : lwC p s m meth c Γ b L xs) {lo : zId → Nat} {S : zSt} {q : Nat → Nat} {M : zMs} {qo : Nat} {O : Nat → Int64} {iv : Int32} {cells slots : Nat} {H : Heap} {locs : List Loc} {ls : Array Slot} (hTT : T S M) (hW : Wd Γ lo S (mcl Γ q M ++ [zOut Γ qo O]) H) (hS : va_S (zA Γ) s.heap H locs) (hl : lv_has ls 8 (lwLv lo (q 0) qo b iv)) (hin : ∀ k : Int32, 0 ≤ k → k ≤ 5 → vp_in (iv + k) L) (hc : cells + 12 ≤ 601024) (hs : slots + 2700 ≤ 7293034) (kk : ∀ (lo1 : zId → Nat) (S1 : zSt) (M1 : zMs) (O1 : Nat → Int64) (H1 : Heap) (locs1 : List Loc) (ls1 : Array Slot), T S1 M1 → Wd Γ lo1 S1 (mcl Γ q M1 ++ [zOut Γ qo O1]) H1 → va_S (zA Γ) s.heap H1 locs1 → lv_has ls1 8 (lwLv lo1 (q 0) qo b iv) → W p l e room_1 s m #[Value.ref b] below meth c H1 locs1 (cells + 12) (slots + 2700) Q (F0 m 2131 ls1 [])) : W p l e room_1 s m #[Value.ref b] below meth c H locs cells slots Q (F0 m 915 ls []) := by
  obtain ⟨hx, hb, hml, hown, hts, hX, hbl, hbA, hB0, hKK, hKX, hKY, hKN⟩ := C0
  have v_z : zV S (10, 0, 0) = true := hT.1 _ _ hTT
  have hl : lv_has ls 8 [(4, .int iv), (3, .ref qo), (2, .ref (q 0)), (1, .ref (lo (10, 0, 0))), (0, .ref b)] := hl
  refine lv_aload_n hx hb dL_law_915 rfl (lv_at hl 3 rfl) ?_
  refine lv_aload_n hx hb dL_law_916 rfl (lv_at hl 4 rfl) ?_
  refine lv_iload hx hb dL_law_917 (lv_at hl 0 rfl) ?_
  refine lv_iconst (v := (1)) hx hb dL_law_919 (by decide) ?_
  refine lv_iadd hx hb dL_law_920 ?_
  refine va_sld hx hb hX hbl hbA hS (hin 1 (by decide) (by decide)) dL_law_921 ?_
  refine lv_aload_n hx hb dL_law_922 rfl (lv_at hl 1 rfl) ?_
  rcases st_gameAt hT S M (xs (iv + 1).toNatClampNeg) hTT with ⟨y, r, M1, h9, h10, hth, hfv, hT1⟩ | ⟨ee, r, M1, h9, h10, hn, hth, hT1⟩
  · dsimp only at hfv hT1
    refine w_call (As := [.ref (lo (10, 0, 0)), .int (xs (iv + 1).toNatClampNeg), .ref qo]) (rest := []) ⟨hx, hb, hml, hown, hts⟩ (tL_gameAt l Γ lo S (mcl Γ q M) qo O v_z h9) (vx_cwSW 3 hts gL_law_L_gameAt rfl rfl rfl (by decide +kernel) ⟨Nat.le_of_ble_eq_true rfl, Nat.le_of_ble_eq_true rfl⟩) hKK hKX hKY hKN hW hS rfl hl.1 rfl (Nat.le_of_ble_eq_true rfl) dL_law_923 ⟨(by show cells + 1 ≤ 601024; omega), (by show slots + 6 ≤ 7293034; omega)⟩ (fun lo1 H locs hW hS h1 hmo _ => ?_)
    rw [← h1 _ v_z] at hl
    refine lv_istore (lv' := [(5, .int (0 : Int32)), (4, .int iv), (3, .ref qo), (2, .ref (q 0)), (1, .ref (lo1 (10, 0, 0))), (0, .ref b)]) hx hb dL_law_926 hl (by decide) rfl (fun ls hl => ?_)
    refine lv_aload_n hx hb dL_law_928 rfl (lv_at hl 3 rfl) ?_
    refine lv_aload_n hx hb dL_law_929 rfl (lv_at hl 5 rfl) ?_
    refine lv_iload hx hb dL_law_930 (lv_at hl 1 rfl) ?_
    refine lv_iconst (v := (1)) hx hb dL_law_932 (by decide) ?_
    refine lv_iadd hx hb dL_law_933 ?_
    refine va_sld hx hb hX hbl hbA hS (hin 1 (by decide) (by decide)) dL_law_934 ?_
    refine z_callV (As := [.int (xs (iv + 1).toNatClampNeg)]) (rest := []) ⟨hx, hb, hml, hown, hts⟩ (tX10_gameAt l Γ lo1 S q M [zOut Γ qo (vp_updL O 0 (y).toInt64)] h10) (cwV 1 hts gL_law_X10_gameAt rfl rfl rfl (by decide +kernel) ⟨Nat.le_of_ble_eq_true rfl, Nat.le_of_ble_eq_true rfl⟩) (wd_x hW (k := 0) rfl) rfl hKK hW hS rfl hl.1 rfl (Nat.le_of_ble_eq_true rfl) dL_law_935 ⟨(by show cells + 1 + 0 ≤ 601024; omega), (by show slots + 6 + 0 ≤ 7293034; omega)⟩ (fun H locs hW hS _ _ => ?_)
    refine lv_istore (lv' := [(6, .int r), (5, .int (0 : Int32)), (4, .int iv), (3, .ref qo), (2, .ref (q 0)), (1, .ref (lo1 (10, 0, 0))), (0, .ref b)]) hx hb dL_law_938 hl (by decide) rfl (fun ls hl => ?_)
    refine lv_aload_n hx hb dL_law_940 rfl (lv_at hl 4 rfl) ?_
    refine z_callV (As := []) (rest := []) ⟨hx, hb, hml, hown, hts⟩ (tX10_thrown l Γ lo1 S q M1 [zOut Γ qo (vp_updL O 0 (y).toInt64)] (show fX10_thrown M1 = some (M1 0 0) from rfl)) (cwV 0 hts gL_law_X10_thrown rfl rfl rfl (by decide +kernel) ⟨Nat.le_of_ble_eq_true rfl, Nat.le_of_ble_eq_true rfl⟩) (wd_x hW (k := 0) rfl) rfl hKK hW hS rfl hl.1 rfl (Nat.le_of_ble_eq_true rfl) dL_law_941 ⟨(by show cells + 1 + 0 + 0 ≤ 601024; omega), (by show slots + 6 + 0 + 0 ≤ 7293034; omega)⟩ (fun H locs hW hS _ _ => ?_)
    refine lv_iload hx hb dL_law_944 (lv_at hl 1 rfl) ?_
    refine lv_icmp_eq (tgt := 951) hx hb dL_law_946 (by decide) (fun _ => ?_) (fun k => absurd hth k)
    refine lv_iload hx hb dL_law_951 (lv_at hl 1 rfl) ?_
    refine lv_if_ne (tgt := 968) hx hb dL_law_953 (by decide) (fun k => absurd rfl k) (fun _ => ?_)
    refine lv_aload_n hx hb dL_law_956 rfl (lv_at hl 3 rfl) ?_
    refine lv_iconst (v := (0)) hx hb dL_law_957 (by decide) ?_
    refine va_lald hx hb hKK.1 (wd_x hW (k := 47) rfl) 0 1 (n := 1) rfl rfl (by unfold vp_in; decide) dL_law_958 ?_
    rw [show vp_updL O 0 (y).toInt64 (0 : Int32).toNatClampNeg = (y).toInt64 from rfl, hfv]
    refine lv_iload hx hb dL_law_959 (lv_at hl 0 rfl) ?_
    refine lv_i2l hx hb dL_law_961 rfl ?_
    refine W.lcmp hx hb dL_law_962 ?_
    rw [lg_same]
    refine lv_if_eq (tgt := 968) hx hb dL_law_963 (by decide) (fun _ => ?_) (fun k => absurd rfl k)
    refine lv_goto (tgt := 2131) hx hb dL_law_968 (by decide) ?_
    refine W.widen (k := cells + 12) (n := slots + 2700) (by omega) (by omega) ?_
    exact kk lo1 S M1 (vp_updL O 0 (y).toInt64) H locs ls hT1 hW hS (lv_sub hl [2, 3, 4, 5, 6] rfl)
  · skip
    refine w_call (As := [.ref (lo (10, 0, 0)), .int (xs (iv + 1).toNatClampNeg), .ref qo]) (rest := []) ⟨hx, hb, hml, hown, hts⟩ (uL_gameAt l hl0 Γ lo S (mcl Γ q M) qo O v_z h9 (by simpa using hn)) (vx_cwSW 3 hts gL_law_L_gameAt rfl rfl rfl (by decide +kernel) ⟨Nat.le_of_ble_eq_true rfl, Nat.le_of_ble_eq_true rfl⟩) hKK hKX hKY hKN hW hS rfl hl.1 rfl (Nat.le_of_ble_eq_true rfl) dL_law_923 ⟨(by show cells + 1 ≤ 601024; omega), (by show slots + 6 ≤ 7293034; omega)⟩ (fun lo1 H locs hW hS h1 hmo _ => ?_)
    rw [← h1 _ v_z] at hl
    refine lv_istore (lv' := [(5, .int (kL [1] ee.1)), (4, .int iv), (3, .ref qo), (2, .ref (q 0)), (1, .ref (lo1 (10, 0, 0))), (0, .ref b)]) hx hb dL_law_926 hl (by decide) rfl (fun ls hl => ?_)
    refine lv_aload_n hx hb dL_law_928 rfl (lv_at hl 3 rfl) ?_
    refine lv_aload_n hx hb dL_law_929 rfl (lv_at hl 5 rfl) ?_
    refine lv_iload hx hb dL_law_930 (lv_at hl 1 rfl) ?_
    refine lv_iconst (v := (1)) hx hb dL_law_932 (by decide) ?_
    refine lv_iadd hx hb dL_law_933 ?_
    refine va_sld hx hb hX hbl hbA hS (hin 1 (by decide) (by decide)) dL_law_934 ?_
    refine z_callV (As := [.int (xs (iv + 1).toNatClampNeg)]) (rest := []) ⟨hx, hb, hml, hown, hts⟩ (tX10_gameAt l Γ lo1 ee.2 q M [zOut Γ qo O] h10) (cwV 1 hts gL_law_X10_gameAt rfl rfl rfl (by decide +kernel) ⟨Nat.le_of_ble_eq_true rfl, Nat.le_of_ble_eq_true rfl⟩) (wd_x hW (k := 0) rfl) rfl hKK hW hS rfl hl.1 rfl (Nat.le_of_ble_eq_true rfl) dL_law_935 ⟨(by show cells + 1 + 0 ≤ 601024; omega), (by show slots + 6 + 0 ≤ 7293034; omega)⟩ (fun H locs hW hS _ _ => ?_)
    refine lv_istore (lv' := [(6, .int r), (5, .int (kL [1] ee.1)), (4, .int iv), (3, .ref qo), (2, .ref (q 0)), (1, .ref (lo1 (10, 0, 0))), (0, .ref b)]) hx hb dL_law_938 hl (by decide) rfl (fun ls hl => ?_)
    refine lv_aload_n hx hb dL_law_940 rfl (lv_at hl 4 rfl) ?_
    refine z_callV (As := []) (rest := []) ⟨hx, hb, hml, hown, hts⟩ (tX10_thrown l Γ lo1 ee.2 q M1 [zOut Γ qo O] (show fX10_thrown M1 = some (M1 0 0) from rfl)) (cwV 0 hts gL_law_X10_thrown rfl rfl rfl (by decide +kernel) ⟨Nat.le_of_ble_eq_true rfl, Nat.le_of_ble_eq_true rfl⟩) (wd_x hW (k := 0) rfl) rfl hKK hW hS rfl hl.1 rfl (Nat.le_of_ble_eq_true rfl) dL_law_941 ⟨(by show cells + 1 + 0 + 0 ≤ 601024; omega), (by show slots + 6 + 0 + 0 ≤ 7293034; omega)⟩ (fun H locs hW hS _ _ => ?_)
    refine lv_iload hx hb dL_law_944 (lv_at hl 1 rfl) ?_
    refine lv_icmp_eq (tgt := 951) hx hb dL_law_946 (by decide) (fun _ => ?_) (fun k => absurd hth k)
    refine lv_iload hx hb dL_law_951 (lv_at hl 1 rfl) ?_
    refine lv_if_ne (tgt := 968) hx hb dL_law_953 (by decide) (fun _ => ?_) (fun k => absurd k (kL_ne _ _ hn (Nat.le_of_ble_eq_true rfl)))
    refine lv_goto (tgt := 2131) hx hb dL_law_968 (by decide) ?_
    refine W.widen (k := cells + 12) (n := slots + 2700) (by omega) (by omega) ?_
    exact kk lo1 ee.2 M1 O H locs ls hT1 hW hS (lv_sub hl [2, 3, 4, 5, 6] rfl)

set_option maxHeartbeats 4000000 in
set_option maxRecDepth 100000 in
theorem lw_c11 {p : Program} {e : Env} {s : State} {m : MethodId} {below : List Frame} {meth : Method} {c : Code} {Q : State → Prop} (l : Launch) (hl0 : l.stackTraces = false) {Γ : zG} {T : zSt → zMs → Prop} (hT : zSteps T) {b L : Nat} {xs : Nat → Int32} (C0 : lwC p s m meth c Γ b L xs) {lo : zId → Nat} {S : zSt} {q : Nat → Nat} {M : zMs} {qo : Nat} {O : Nat → Int64} {iv : Int32} {cells slots : Nat} {H : Heap} {locs : List Loc} {ls : Array Slot} (hTT : T S M) (hW : Wd Γ lo S (mcl Γ q M ++ [zOut Γ qo O]) H) (hS : va_S (zA Γ) s.heap H locs) (hl : lv_has ls 8 (lwLv lo (q 0) qo b iv)) (hin : ∀ k : Int32, 0 ≤ k → k ≤ 5 → vp_in (iv + k) L) (hc : cells + 12 ≤ 601024) (hs : slots + 2700 ≤ 7293034) (kk : ∀ (lo1 : zId → Nat) (S1 : zSt) (M1 : zMs) (O1 : Nat → Int64) (H1 : Heap) (locs1 : List Loc) (ls1 : Array Slot), T S1 M1 → Wd Γ lo1 S1 (mcl Γ q M1 ++ [zOut Γ qo O1]) H1 → va_S (zA Γ) s.heap H1 locs1 → lv_has ls1 8 (lwLv lo1 (q 0) qo b iv) → W p l e room_1 s m #[Value.ref b] below meth c H1 locs1 (cells + 12) (slots + 2700) Q (F0 m 2131 ls1 [])) : W p l e room_1 s m #[Value.ref b] below meth c H locs cells slots Q (F0 m 971 ls []) := by
  obtain ⟨hx, hb, hml, hown, hts, hX, hbl, hbA, hB0, hKK, hKX, hKY, hKN⟩ := C0
  have v_z : zV S (10, 0, 0) = true := hT.1 _ _ hTT
  have hl : lv_has ls 8 [(4, .int iv), (3, .ref qo), (2, .ref (q 0)), (1, .ref (lo (10, 0, 0))), (0, .ref b)] := hl
  obtain ⟨n, M1, h9, h10, hT1⟩ := st_games hT S M hTT
  refine lv_aload_n hx hb dL_law_971 rfl (lv_at hl 3 rfl) ?_
  refine z_callV (As := []) (rest := []) ⟨hx, hb, hml, hown, hts⟩ (tX9_games l Γ lo S (mcl Γ q M ++ [zOut Γ qo O]) v_z h9) (cwV 0 hts gL_law_X9_games rfl rfl rfl (by decide +kernel) ⟨Nat.le_of_ble_eq_true rfl, Nat.le_of_ble_eq_true rfl⟩) (wd_1 hW v_z) rfl hKK hW hS rfl hl.1 rfl (Nat.le_of_ble_eq_true rfl) dL_law_972 ⟨(by show cells + 0 ≤ 601024; omega), (by show slots + 0 ≤ 7293034; omega)⟩ (fun H locs hW hS _ _ => ?_)
  refine lv_aload_n hx hb dL_law_975 rfl (lv_at hl 2 rfl) ?_
  refine z_callV (As := []) (rest := [.int n]) ⟨hx, hb, hml, hown, hts⟩ (tX10_games l Γ lo S q M [zOut Γ qo O] h10) (cwV 0 hts gL_law_X10_games rfl rfl rfl (by decide +kernel) ⟨Nat.le_of_ble_eq_true rfl, Nat.le_of_ble_eq_true rfl⟩) (wd_x hW (k := 0) rfl) rfl hKK hW hS rfl hl.1 rfl (Nat.le_of_ble_eq_true rfl) dL_law_976 ⟨(by show cells + 0 + 0 ≤ 601024; omega), (by show slots + 0 + 0 ≤ 7293034; omega)⟩ (fun H locs hW hS _ _ => ?_)
  refine lv_icmp_eq (tgt := 2131) hx hb dL_law_979 (by decide) (fun _ => ?_) (fun k => absurd rfl k)
  refine W.widen (k := cells + 12) (n := slots + 2700) (by omega) (by omega) ?_
  exact kk lo S M1 O H locs ls hT1 hW hS hl

set_option maxHeartbeats 4000000 in
set_option maxRecDepth 100000 in
theorem lw_c12 {p : Program} {e : Env} {s : State} {m : MethodId} {below : List Frame} {meth : Method} {c : Code} {Q : State → Prop} (l : Launch) (hl0 : l.stackTraces = false) {Γ : zG} {T : zSt → zMs → Prop} (hT : zSteps T) {b L : Nat} {xs : Nat → Int32} (C0 : lwC p s m meth c Γ b L xs) {lo : zId → Nat} {S : zSt} {q : Nat → Nat} {M : zMs} {qo : Nat} {O : Nat → Int64} {iv : Int32} {cells slots : Nat} {H : Heap} {locs : List Loc} {ls : Array Slot} (hTT : T S M) (hW : Wd Γ lo S (mcl Γ q M ++ [zOut Γ qo O]) H) (hS : va_S (zA Γ) s.heap H locs) (hl : lv_has ls 8 (lwLv lo (q 0) qo b iv)) (hin : ∀ k : Int32, 0 ≤ k → k ≤ 5 → vp_in (iv + k) L) (hc : cells + 12 ≤ 601024) (hs : slots + 2700 ≤ 7293034) (kk : ∀ (lo1 : zId → Nat) (S1 : zSt) (M1 : zMs) (O1 : Nat → Int64) (H1 : Heap) (locs1 : List Loc) (ls1 : Array Slot), T S1 M1 → Wd Γ lo1 S1 (mcl Γ q M1 ++ [zOut Γ qo O1]) H1 → va_S (zA Γ) s.heap H1 locs1 → lv_has ls1 8 (lwLv lo1 (q 0) qo b iv) → W p l e room_1 s m #[Value.ref b] below meth c H1 locs1 (cells + 12) (slots + 2700) Q (F0 m 2131 ls1 [])) : W p l e room_1 s m #[Value.ref b] below meth c H locs cells slots Q (F0 m 984 ls []) := by
  obtain ⟨hx, hb, hml, hown, hts, hX, hbl, hbA, hB0, hKK, hKX, hKY, hKN⟩ := C0
  have v_z : zV S (10, 0, 0) = true := hT.1 _ _ hTT
  have hl : lv_has ls 8 [(4, .int iv), (3, .ref qo), (2, .ref (q 0)), (1, .ref (lo (10, 0, 0))), (0, .ref b)] := hl
  refine lv_aload_n hx hb dL_law_984 rfl (lv_at hl 3 rfl) ?_
  refine lv_aload_n hx hb dL_law_985 rfl (lv_at hl 4 rfl) ?_
  refine lv_iload hx hb dL_law_986 (lv_at hl 0 rfl) ?_
  refine lv_iconst (v := (1)) hx hb dL_law_988 (by decide) ?_
  refine lv_iadd hx hb dL_law_989 ?_
  refine va_sld hx hb hX hbl hbA hS (hin 1 (by decide) (by decide)) dL_law_990 ?_
  refine lv_aload_n hx hb dL_law_991 rfl (lv_at hl 1 rfl) ?_
  rcases st_ballsLeft hT S M (xs (iv + 1).toNatClampNeg) hTT with ⟨y, r, M1, h9, h10, hth, hfv, hT1⟩ | ⟨ee, r, M1, h9, h10, hn, hth, hT1⟩
  · dsimp only at hfv hT1
    refine w_call (As := [.ref (lo (10, 0, 0)), .int (xs (iv + 1).toNatClampNeg), .ref qo]) (rest := []) ⟨hx, hb, hml, hown, hts⟩ (tL_ballsLeft l Γ lo S (mcl Γ q M) qo O v_z h9) (vx_cwSW 3 hts gL_law_L_ballsLeft rfl rfl rfl (by decide +kernel) ⟨Nat.le_of_ble_eq_true rfl, Nat.le_of_ble_eq_true rfl⟩) hKK hKX hKY hKN hW hS rfl hl.1 rfl (Nat.le_of_ble_eq_true rfl) dL_law_992 ⟨(by show cells + 1 ≤ 601024; omega), (by show slots + 6 ≤ 7293034; omega)⟩ (fun lo1 H locs hW hS h1 hmo _ => ?_)
    rw [← h1 _ v_z] at hl
    refine lv_istore (lv' := [(5, .int (0 : Int32)), (4, .int iv), (3, .ref qo), (2, .ref (q 0)), (1, .ref (lo1 (10, 0, 0))), (0, .ref b)]) hx hb dL_law_995 hl (by decide) rfl (fun ls hl => ?_)
    refine lv_aload_n hx hb dL_law_997 rfl (lv_at hl 3 rfl) ?_
    refine lv_aload_n hx hb dL_law_998 rfl (lv_at hl 5 rfl) ?_
    refine lv_iload hx hb dL_law_999 (lv_at hl 1 rfl) ?_
    refine lv_iconst (v := (1)) hx hb dL_law_1001 (by decide) ?_
    refine lv_iadd hx hb dL_law_1002 ?_
    refine va_sld hx hb hX hbl hbA hS (hin 1 (by decide) (by decide)) dL_law_1003 ?_
    refine z_callV (As := [.int (xs (iv + 1).toNatClampNeg)]) (rest := []) ⟨hx, hb, hml, hown, hts⟩ (tX10_ballsLeft l Γ lo1 S q M [zOut Γ qo (vp_updL O 0 (y).toInt64)] h10) (cwV 1 hts gL_law_X10_ballsLeft rfl rfl rfl (by decide +kernel) ⟨Nat.le_of_ble_eq_true rfl, Nat.le_of_ble_eq_true rfl⟩) (wd_x hW (k := 0) rfl) rfl hKK hW hS rfl hl.1 rfl (Nat.le_of_ble_eq_true rfl) dL_law_1004 ⟨(by show cells + 1 + 0 ≤ 601024; omega), (by show slots + 6 + 0 ≤ 7293034; omega)⟩ (fun H locs hW hS _ _ => ?_)
    refine lv_istore (lv' := [(6, .int r), (5, .int (0 : Int32)), (4, .int iv), (3, .ref qo), (2, .ref (q 0)), (1, .ref (lo1 (10, 0, 0))), (0, .ref b)]) hx hb dL_law_1007 hl (by decide) rfl (fun ls hl => ?_)
    refine lv_aload_n hx hb dL_law_1009 rfl (lv_at hl 4 rfl) ?_
    refine z_callV (As := []) (rest := []) ⟨hx, hb, hml, hown, hts⟩ (tX10_thrown l Γ lo1 S q M1 [zOut Γ qo (vp_updL O 0 (y).toInt64)] (show fX10_thrown M1 = some (M1 0 0) from rfl)) (cwV 0 hts gL_law_X10_thrown rfl rfl rfl (by decide +kernel) ⟨Nat.le_of_ble_eq_true rfl, Nat.le_of_ble_eq_true rfl⟩) (wd_x hW (k := 0) rfl) rfl hKK hW hS rfl hl.1 rfl (Nat.le_of_ble_eq_true rfl) dL_law_1010 ⟨(by show cells + 1 + 0 + 0 ≤ 601024; omega), (by show slots + 6 + 0 + 0 ≤ 7293034; omega)⟩ (fun H locs hW hS _ _ => ?_)
    refine lv_iload hx hb dL_law_1013 (lv_at hl 1 rfl) ?_
    refine lv_icmp_eq (tgt := 1020) hx hb dL_law_1015 (by decide) (fun _ => ?_) (fun k => absurd hth k)
    refine lv_iload hx hb dL_law_1020 (lv_at hl 1 rfl) ?_
    refine lv_if_ne (tgt := 1037) hx hb dL_law_1022 (by decide) (fun k => absurd rfl k) (fun _ => ?_)
    refine lv_aload_n hx hb dL_law_1025 rfl (lv_at hl 3 rfl) ?_
    refine lv_iconst (v := (0)) hx hb dL_law_1026 (by decide) ?_
    refine va_lald hx hb hKK.1 (wd_x hW (k := 47) rfl) 0 1 (n := 1) rfl rfl (by unfold vp_in; decide) dL_law_1027 ?_
    rw [show vp_updL O 0 (y).toInt64 (0 : Int32).toNatClampNeg = (y).toInt64 from rfl, hfv]
    refine lv_iload hx hb dL_law_1028 (lv_at hl 0 rfl) ?_
    refine lv_i2l hx hb dL_law_1030 rfl ?_
    refine W.lcmp hx hb dL_law_1031 ?_
    rw [lg_same]
    refine lv_if_eq (tgt := 1037) hx hb dL_law_1032 (by decide) (fun _ => ?_) (fun k => absurd rfl k)
    refine lv_goto (tgt := 2131) hx hb dL_law_1037 (by decide) ?_
    refine W.widen (k := cells + 12) (n := slots + 2700) (by omega) (by omega) ?_
    exact kk lo1 S M1 (vp_updL O 0 (y).toInt64) H locs ls hT1 hW hS (lv_sub hl [2, 3, 4, 5, 6] rfl)
  · skip
    refine w_call (As := [.ref (lo (10, 0, 0)), .int (xs (iv + 1).toNatClampNeg), .ref qo]) (rest := []) ⟨hx, hb, hml, hown, hts⟩ (uL_ballsLeft l hl0 Γ lo S (mcl Γ q M) qo O v_z h9 (by simpa using hn)) (vx_cwSW 3 hts gL_law_L_ballsLeft rfl rfl rfl (by decide +kernel) ⟨Nat.le_of_ble_eq_true rfl, Nat.le_of_ble_eq_true rfl⟩) hKK hKX hKY hKN hW hS rfl hl.1 rfl (Nat.le_of_ble_eq_true rfl) dL_law_992 ⟨(by show cells + 1 ≤ 601024; omega), (by show slots + 6 ≤ 7293034; omega)⟩ (fun lo1 H locs hW hS h1 hmo _ => ?_)
    rw [← h1 _ v_z] at hl
    refine lv_istore (lv' := [(5, .int (kL [1] ee.1)), (4, .int iv), (3, .ref qo), (2, .ref (q 0)), (1, .ref (lo1 (10, 0, 0))), (0, .ref b)]) hx hb dL_law_995 hl (by decide) rfl (fun ls hl => ?_)
    refine lv_aload_n hx hb dL_law_997 rfl (lv_at hl 3 rfl) ?_
    refine lv_aload_n hx hb dL_law_998 rfl (lv_at hl 5 rfl) ?_
    refine lv_iload hx hb dL_law_999 (lv_at hl 1 rfl) ?_
    refine lv_iconst (v := (1)) hx hb dL_law_1001 (by decide) ?_
    refine lv_iadd hx hb dL_law_1002 ?_
    refine va_sld hx hb hX hbl hbA hS (hin 1 (by decide) (by decide)) dL_law_1003 ?_
    refine z_callV (As := [.int (xs (iv + 1).toNatClampNeg)]) (rest := []) ⟨hx, hb, hml, hown, hts⟩ (tX10_ballsLeft l Γ lo1 ee.2 q M [zOut Γ qo O] h10) (cwV 1 hts gL_law_X10_ballsLeft rfl rfl rfl (by decide +kernel) ⟨Nat.le_of_ble_eq_true rfl, Nat.le_of_ble_eq_true rfl⟩) (wd_x hW (k := 0) rfl) rfl hKK hW hS rfl hl.1 rfl (Nat.le_of_ble_eq_true rfl) dL_law_1004 ⟨(by show cells + 1 + 0 ≤ 601024; omega), (by show slots + 6 + 0 ≤ 7293034; omega)⟩ (fun H locs hW hS _ _ => ?_)
    refine lv_istore (lv' := [(6, .int r), (5, .int (kL [1] ee.1)), (4, .int iv), (3, .ref qo), (2, .ref (q 0)), (1, .ref (lo1 (10, 0, 0))), (0, .ref b)]) hx hb dL_law_1007 hl (by decide) rfl (fun ls hl => ?_)
    refine lv_aload_n hx hb dL_law_1009 rfl (lv_at hl 4 rfl) ?_
    refine z_callV (As := []) (rest := []) ⟨hx, hb, hml, hown, hts⟩ (tX10_thrown l Γ lo1 ee.2 q M1 [zOut Γ qo O] (show fX10_thrown M1 = some (M1 0 0) from rfl)) (cwV 0 hts gL_law_X10_thrown rfl rfl rfl (by decide +kernel) ⟨Nat.le_of_ble_eq_true rfl, Nat.le_of_ble_eq_true rfl⟩) (wd_x hW (k := 0) rfl) rfl hKK hW hS rfl hl.1 rfl (Nat.le_of_ble_eq_true rfl) dL_law_1010 ⟨(by show cells + 1 + 0 + 0 ≤ 601024; omega), (by show slots + 6 + 0 + 0 ≤ 7293034; omega)⟩ (fun H locs hW hS _ _ => ?_)
    refine lv_iload hx hb dL_law_1013 (lv_at hl 1 rfl) ?_
    refine lv_icmp_eq (tgt := 1020) hx hb dL_law_1015 (by decide) (fun _ => ?_) (fun k => absurd hth k)
    refine lv_iload hx hb dL_law_1020 (lv_at hl 1 rfl) ?_
    refine lv_if_ne (tgt := 1037) hx hb dL_law_1022 (by decide) (fun _ => ?_) (fun k => absurd k (kL_ne _ _ hn (Nat.le_of_ble_eq_true rfl)))
    refine lv_goto (tgt := 2131) hx hb dL_law_1037 (by decide) ?_
    refine W.widen (k := cells + 12) (n := slots + 2700) (by omega) (by omega) ?_
    exact kk lo1 ee.2 M1 O H locs ls hT1 hW hS (lv_sub hl [2, 3, 4, 5, 6] rfl)

set_option maxHeartbeats 4000000 in
set_option maxRecDepth 100000 in
theorem lw_c13 {p : Program} {e : Env} {s : State} {m : MethodId} {below : List Frame} {meth : Method} {c : Code} {Q : State → Prop} (l : Launch) (hl0 : l.stackTraces = false) {Γ : zG} {T : zSt → zMs → Prop} (hT : zSteps T) {b L : Nat} {xs : Nat → Int32} (C0 : lwC p s m meth c Γ b L xs) {lo : zId → Nat} {S : zSt} {q : Nat → Nat} {M : zMs} {qo : Nat} {O : Nat → Int64} {iv : Int32} {cells slots : Nat} {H : Heap} {locs : List Loc} {ls : Array Slot} (hTT : T S M) (hW : Wd Γ lo S (mcl Γ q M ++ [zOut Γ qo O]) H) (hS : va_S (zA Γ) s.heap H locs) (hl : lv_has ls 8 (lwLv lo (q 0) qo b iv)) (hin : ∀ k : Int32, 0 ≤ k → k ≤ 5 → vp_in (iv + k) L) (hc : cells + 12 ≤ 601024) (hs : slots + 2700 ≤ 7293034) (kk : ∀ (lo1 : zId → Nat) (S1 : zSt) (M1 : zMs) (O1 : Nat → Int64) (H1 : Heap) (locs1 : List Loc) (ls1 : Array Slot), T S1 M1 → Wd Γ lo1 S1 (mcl Γ q M1 ++ [zOut Γ qo O1]) H1 → va_S (zA Γ) s.heap H1 locs1 → lv_has ls1 8 (lwLv lo1 (q 0) qo b iv) → W p l e room_1 s m #[Value.ref b] below meth c H1 locs1 (cells + 12) (slots + 2700) Q (F0 m 2131 ls1 [])) : W p l e room_1 s m #[Value.ref b] below meth c H locs cells slots Q (F0 m 1040 ls []) := by
  obtain ⟨hx, hb, hml, hown, hts, hX, hbl, hbA, hB0, hKK, hKX, hKY, hKN⟩ := C0
  have v_z : zV S (10, 0, 0) = true := hT.1 _ _ hTT
  have hl : lv_has ls 8 [(4, .int iv), (3, .ref qo), (2, .ref (q 0)), (1, .ref (lo (10, 0, 0))), (0, .ref b)] := hl
  refine lv_aload_n hx hb dL_law_1040 rfl (lv_at hl 3 rfl) ?_
  refine lv_aload_n hx hb dL_law_1041 rfl (lv_at hl 4 rfl) ?_
  refine lv_iload hx hb dL_law_1042 (lv_at hl 0 rfl) ?_
  refine lv_iconst (v := (1)) hx hb dL_law_1044 (by decide) ?_
  refine lv_iadd hx hb dL_law_1045 ?_
  refine va_sld hx hb hX hbl hbA hS (hin 1 (by decide) (by decide)) dL_law_1046 ?_
  refine lv_aload_n hx hb dL_law_1047 rfl (lv_at hl 1 rfl) ?_
  rcases st_stack hT S M (xs (iv + 1).toNatClampNeg) hTT with ⟨y, r, M1, h9, h10, hth, hfv, hT1⟩ | ⟨ee, r, M1, h9, h10, hn, hth, hT1⟩
  · dsimp only at hfv hT1
    refine w_call (As := [.ref (lo (10, 0, 0)), .int (xs (iv + 1).toNatClampNeg), .ref qo]) (rest := []) ⟨hx, hb, hml, hown, hts⟩ (tL_stack l Γ lo S (mcl Γ q M) qo O v_z h9) (vx_cwSW 3 hts gL_law_L_stack rfl rfl rfl (by decide +kernel) ⟨Nat.le_of_ble_eq_true rfl, Nat.le_of_ble_eq_true rfl⟩) hKK hKX hKY hKN hW hS rfl hl.1 rfl (Nat.le_of_ble_eq_true rfl) dL_law_1048 ⟨(by show cells + 1 ≤ 601024; omega), (by show slots + 6 ≤ 7293034; omega)⟩ (fun lo1 H locs hW hS h1 hmo _ => ?_)
    rw [← h1 _ v_z] at hl
    refine lv_istore (lv' := [(5, .int (0 : Int32)), (4, .int iv), (3, .ref qo), (2, .ref (q 0)), (1, .ref (lo1 (10, 0, 0))), (0, .ref b)]) hx hb dL_law_1051 hl (by decide) rfl (fun ls hl => ?_)
    refine lv_aload_n hx hb dL_law_1053 rfl (lv_at hl 3 rfl) ?_
    refine lv_aload_n hx hb dL_law_1054 rfl (lv_at hl 5 rfl) ?_
    refine lv_iload hx hb dL_law_1055 (lv_at hl 1 rfl) ?_
    refine lv_iconst (v := (1)) hx hb dL_law_1057 (by decide) ?_
    refine lv_iadd hx hb dL_law_1058 ?_
    refine va_sld hx hb hX hbl hbA hS (hin 1 (by decide) (by decide)) dL_law_1059 ?_
    refine z_callV (As := [.int (xs (iv + 1).toNatClampNeg)]) (rest := []) ⟨hx, hb, hml, hown, hts⟩ (tX10_stack l Γ lo1 S q M [zOut Γ qo (vp_updL O 0 (y).toInt64)] h10) (cwV 1 hts gL_law_X10_stack rfl rfl rfl (by decide +kernel) ⟨Nat.le_of_ble_eq_true rfl, Nat.le_of_ble_eq_true rfl⟩) (wd_x hW (k := 0) rfl) rfl hKK hW hS rfl hl.1 rfl (Nat.le_of_ble_eq_true rfl) dL_law_1060 ⟨(by show cells + 1 + 0 ≤ 601024; omega), (by show slots + 6 + 0 ≤ 7293034; omega)⟩ (fun H locs hW hS _ _ => ?_)
    refine lv_istore (lv' := [(6, .int r), (5, .int (0 : Int32)), (4, .int iv), (3, .ref qo), (2, .ref (q 0)), (1, .ref (lo1 (10, 0, 0))), (0, .ref b)]) hx hb dL_law_1063 hl (by decide) rfl (fun ls hl => ?_)
    refine lv_aload_n hx hb dL_law_1065 rfl (lv_at hl 4 rfl) ?_
    refine z_callV (As := []) (rest := []) ⟨hx, hb, hml, hown, hts⟩ (tX10_thrown l Γ lo1 S q M1 [zOut Γ qo (vp_updL O 0 (y).toInt64)] (show fX10_thrown M1 = some (M1 0 0) from rfl)) (cwV 0 hts gL_law_X10_thrown rfl rfl rfl (by decide +kernel) ⟨Nat.le_of_ble_eq_true rfl, Nat.le_of_ble_eq_true rfl⟩) (wd_x hW (k := 0) rfl) rfl hKK hW hS rfl hl.1 rfl (Nat.le_of_ble_eq_true rfl) dL_law_1066 ⟨(by show cells + 1 + 0 + 0 ≤ 601024; omega), (by show slots + 6 + 0 + 0 ≤ 7293034; omega)⟩ (fun H locs hW hS _ _ => ?_)
    refine lv_iload hx hb dL_law_1069 (lv_at hl 1 rfl) ?_
    refine lv_icmp_eq (tgt := 1076) hx hb dL_law_1071 (by decide) (fun _ => ?_) (fun k => absurd hth k)
    refine lv_iload hx hb dL_law_1076 (lv_at hl 1 rfl) ?_
    refine lv_if_ne (tgt := 1093) hx hb dL_law_1078 (by decide) (fun k => absurd rfl k) (fun _ => ?_)
    refine lv_aload_n hx hb dL_law_1081 rfl (lv_at hl 3 rfl) ?_
    refine lv_iconst (v := (0)) hx hb dL_law_1082 (by decide) ?_
    refine va_lald hx hb hKK.1 (wd_x hW (k := 47) rfl) 0 1 (n := 1) rfl rfl (by unfold vp_in; decide) dL_law_1083 ?_
    rw [show vp_updL O 0 (y).toInt64 (0 : Int32).toNatClampNeg = (y).toInt64 from rfl, hfv]
    refine lv_iload hx hb dL_law_1084 (lv_at hl 0 rfl) ?_
    refine lv_i2l hx hb dL_law_1086 rfl ?_
    refine W.lcmp hx hb dL_law_1087 ?_
    rw [lg_same]
    refine lv_if_eq (tgt := 1093) hx hb dL_law_1088 (by decide) (fun _ => ?_) (fun k => absurd rfl k)
    refine lv_goto (tgt := 2131) hx hb dL_law_1093 (by decide) ?_
    refine W.widen (k := cells + 12) (n := slots + 2700) (by omega) (by omega) ?_
    exact kk lo1 S M1 (vp_updL O 0 (y).toInt64) H locs ls hT1 hW hS (lv_sub hl [2, 3, 4, 5, 6] rfl)
  · skip
    refine w_call (As := [.ref (lo (10, 0, 0)), .int (xs (iv + 1).toNatClampNeg), .ref qo]) (rest := []) ⟨hx, hb, hml, hown, hts⟩ (uL_stack l hl0 Γ lo S (mcl Γ q M) qo O v_z h9 (by simpa using hn)) (vx_cwSW 3 hts gL_law_L_stack rfl rfl rfl (by decide +kernel) ⟨Nat.le_of_ble_eq_true rfl, Nat.le_of_ble_eq_true rfl⟩) hKK hKX hKY hKN hW hS rfl hl.1 rfl (Nat.le_of_ble_eq_true rfl) dL_law_1048 ⟨(by show cells + 1 ≤ 601024; omega), (by show slots + 6 ≤ 7293034; omega)⟩ (fun lo1 H locs hW hS h1 hmo _ => ?_)
    rw [← h1 _ v_z] at hl
    refine lv_istore (lv' := [(5, .int (kL [1] ee.1)), (4, .int iv), (3, .ref qo), (2, .ref (q 0)), (1, .ref (lo1 (10, 0, 0))), (0, .ref b)]) hx hb dL_law_1051 hl (by decide) rfl (fun ls hl => ?_)
    refine lv_aload_n hx hb dL_law_1053 rfl (lv_at hl 3 rfl) ?_
    refine lv_aload_n hx hb dL_law_1054 rfl (lv_at hl 5 rfl) ?_
    refine lv_iload hx hb dL_law_1055 (lv_at hl 1 rfl) ?_
    refine lv_iconst (v := (1)) hx hb dL_law_1057 (by decide) ?_
    refine lv_iadd hx hb dL_law_1058 ?_
    refine va_sld hx hb hX hbl hbA hS (hin 1 (by decide) (by decide)) dL_law_1059 ?_
    refine z_callV (As := [.int (xs (iv + 1).toNatClampNeg)]) (rest := []) ⟨hx, hb, hml, hown, hts⟩ (tX10_stack l Γ lo1 ee.2 q M [zOut Γ qo O] h10) (cwV 1 hts gL_law_X10_stack rfl rfl rfl (by decide +kernel) ⟨Nat.le_of_ble_eq_true rfl, Nat.le_of_ble_eq_true rfl⟩) (wd_x hW (k := 0) rfl) rfl hKK hW hS rfl hl.1 rfl (Nat.le_of_ble_eq_true rfl) dL_law_1060 ⟨(by show cells + 1 + 0 ≤ 601024; omega), (by show slots + 6 + 0 ≤ 7293034; omega)⟩ (fun H locs hW hS _ _ => ?_)
    refine lv_istore (lv' := [(6, .int r), (5, .int (kL [1] ee.1)), (4, .int iv), (3, .ref qo), (2, .ref (q 0)), (1, .ref (lo1 (10, 0, 0))), (0, .ref b)]) hx hb dL_law_1063 hl (by decide) rfl (fun ls hl => ?_)
    refine lv_aload_n hx hb dL_law_1065 rfl (lv_at hl 4 rfl) ?_
    refine z_callV (As := []) (rest := []) ⟨hx, hb, hml, hown, hts⟩ (tX10_thrown l Γ lo1 ee.2 q M1 [zOut Γ qo O] (show fX10_thrown M1 = some (M1 0 0) from rfl)) (cwV 0 hts gL_law_X10_thrown rfl rfl rfl (by decide +kernel) ⟨Nat.le_of_ble_eq_true rfl, Nat.le_of_ble_eq_true rfl⟩) (wd_x hW (k := 0) rfl) rfl hKK hW hS rfl hl.1 rfl (Nat.le_of_ble_eq_true rfl) dL_law_1066 ⟨(by show cells + 1 + 0 + 0 ≤ 601024; omega), (by show slots + 6 + 0 + 0 ≤ 7293034; omega)⟩ (fun H locs hW hS _ _ => ?_)
    refine lv_iload hx hb dL_law_1069 (lv_at hl 1 rfl) ?_
    refine lv_icmp_eq (tgt := 1076) hx hb dL_law_1071 (by decide) (fun _ => ?_) (fun k => absurd hth k)
    refine lv_iload hx hb dL_law_1076 (lv_at hl 1 rfl) ?_
    refine lv_if_ne (tgt := 1093) hx hb dL_law_1078 (by decide) (fun _ => ?_) (fun k => absurd k (kL_ne _ _ hn (Nat.le_of_ble_eq_true rfl)))
    refine lv_goto (tgt := 2131) hx hb dL_law_1093 (by decide) ?_
    refine W.widen (k := cells + 12) (n := slots + 2700) (by omega) (by omega) ?_
    exact kk lo1 ee.2 M1 O H locs ls hT1 hW hS (lv_sub hl [2, 3, 4, 5, 6] rfl)

set_option maxHeartbeats 4000000 in
set_option maxRecDepth 100000 in
theorem lw_c14 {p : Program} {e : Env} {s : State} {m : MethodId} {below : List Frame} {meth : Method} {c : Code} {Q : State → Prop} (l : Launch) (hl0 : l.stackTraces = false) {Γ : zG} {T : zSt → zMs → Prop} (hT : zSteps T) {b L : Nat} {xs : Nat → Int32} (C0 : lwC p s m meth c Γ b L xs) {lo : zId → Nat} {S : zSt} {q : Nat → Nat} {M : zMs} {qo : Nat} {O : Nat → Int64} {iv : Int32} {cells slots : Nat} {H : Heap} {locs : List Loc} {ls : Array Slot} (hTT : T S M) (hW : Wd Γ lo S (mcl Γ q M ++ [zOut Γ qo O]) H) (hS : va_S (zA Γ) s.heap H locs) (hl : lv_has ls 8 (lwLv lo (q 0) qo b iv)) (hin : ∀ k : Int32, 0 ≤ k → k ≤ 5 → vp_in (iv + k) L) (hc : cells + 12 ≤ 601024) (hs : slots + 2700 ≤ 7293034) (kk : ∀ (lo1 : zId → Nat) (S1 : zSt) (M1 : zMs) (O1 : Nat → Int64) (H1 : Heap) (locs1 : List Loc) (ls1 : Array Slot), T S1 M1 → Wd Γ lo1 S1 (mcl Γ q M1 ++ [zOut Γ qo O1]) H1 → va_S (zA Γ) s.heap H1 locs1 → lv_has ls1 8 (lwLv lo1 (q 0) qo b iv) → W p l e room_1 s m #[Value.ref b] below meth c H1 locs1 (cells + 12) (slots + 2700) Q (F0 m 2131 ls1 [])) : W p l e room_1 s m #[Value.ref b] below meth c H locs cells slots Q (F0 m 1096 ls []) := by
  obtain ⟨hx, hb, hml, hown, hts, hX, hbl, hbA, hB0, hKK, hKX, hKY, hKN⟩ := C0
  have v_z : zV S (10, 0, 0) = true := hT.1 _ _ hTT
  have hl : lv_has ls 8 [(4, .int iv), (3, .ref qo), (2, .ref (q 0)), (1, .ref (lo (10, 0, 0))), (0, .ref b)] := hl
  refine lv_aload_n hx hb dL_law_1096 rfl (lv_at hl 3 rfl) ?_
  refine lv_aload_n hx hb dL_law_1097 rfl (lv_at hl 4 rfl) ?_
  refine lv_iload hx hb dL_law_1098 (lv_at hl 0 rfl) ?_
  refine lv_iconst (v := (1)) hx hb dL_law_1100 (by decide) ?_
  refine lv_iadd hx hb dL_law_1101 ?_
  refine va_sld hx hb hX hbl hbA hS (hin 1 (by decide) (by decide)) dL_law_1102 ?_
  refine lv_aload_n hx hb dL_law_1103 rfl (lv_at hl 1 rfl) ?_
  rcases st_score hT S M (xs (iv + 1).toNatClampNeg) hTT with ⟨y, r, M1, h9, h10, hth, hfv, hT1⟩ | ⟨ee, r, M1, h9, h10, hn, hth, hT1⟩
  · dsimp only at hfv hT1
    refine w_call (As := [.ref (lo (10, 0, 0)), .int (xs (iv + 1).toNatClampNeg), .ref qo]) (rest := []) ⟨hx, hb, hml, hown, hts⟩ (tL_score l Γ lo S (mcl Γ q M) qo O v_z h9) (vx_cwSW 3 hts gL_law_L_score rfl rfl rfl (by decide +kernel) ⟨Nat.le_of_ble_eq_true rfl, Nat.le_of_ble_eq_true rfl⟩) hKK hKX hKY hKN hW hS rfl hl.1 rfl (Nat.le_of_ble_eq_true rfl) dL_law_1104 ⟨(by show cells + 1 ≤ 601024; omega), (by show slots + 6 ≤ 7293034; omega)⟩ (fun lo1 H locs hW hS h1 hmo _ => ?_)
    rw [← h1 _ v_z] at hl
    refine lv_istore (lv' := [(5, .int (0 : Int32)), (4, .int iv), (3, .ref qo), (2, .ref (q 0)), (1, .ref (lo1 (10, 0, 0))), (0, .ref b)]) hx hb dL_law_1107 hl (by decide) rfl (fun ls hl => ?_)
    refine lv_aload_n hx hb dL_law_1109 rfl (lv_at hl 3 rfl) ?_
    refine lv_aload_n hx hb dL_law_1110 rfl (lv_at hl 5 rfl) ?_
    refine lv_iload hx hb dL_law_1111 (lv_at hl 1 rfl) ?_
    refine lv_iconst (v := (1)) hx hb dL_law_1113 (by decide) ?_
    refine lv_iadd hx hb dL_law_1114 ?_
    refine va_sld hx hb hX hbl hbA hS (hin 1 (by decide) (by decide)) dL_law_1115 ?_
    refine z_callV (As := [.int (xs (iv + 1).toNatClampNeg)]) (rest := []) ⟨hx, hb, hml, hown, hts⟩ (tX10_score l Γ lo1 S q M [zOut Γ qo (vp_updL O 0 (y).toInt64)] h10) (cwV 1 hts gL_law_X10_score rfl rfl rfl (by decide +kernel) ⟨Nat.le_of_ble_eq_true rfl, Nat.le_of_ble_eq_true rfl⟩) (wd_x hW (k := 0) rfl) rfl hKK hW hS rfl hl.1 rfl (Nat.le_of_ble_eq_true rfl) dL_law_1116 ⟨(by show cells + 1 + 0 ≤ 601024; omega), (by show slots + 6 + 0 ≤ 7293034; omega)⟩ (fun H locs hW hS _ _ => ?_)
    refine lv_istore (lv' := [(6, .int r), (5, .int (0 : Int32)), (4, .int iv), (3, .ref qo), (2, .ref (q 0)), (1, .ref (lo1 (10, 0, 0))), (0, .ref b)]) hx hb dL_law_1119 hl (by decide) rfl (fun ls hl => ?_)
    refine lv_aload_n hx hb dL_law_1121 rfl (lv_at hl 4 rfl) ?_
    refine z_callV (As := []) (rest := []) ⟨hx, hb, hml, hown, hts⟩ (tX10_thrown l Γ lo1 S q M1 [zOut Γ qo (vp_updL O 0 (y).toInt64)] (show fX10_thrown M1 = some (M1 0 0) from rfl)) (cwV 0 hts gL_law_X10_thrown rfl rfl rfl (by decide +kernel) ⟨Nat.le_of_ble_eq_true rfl, Nat.le_of_ble_eq_true rfl⟩) (wd_x hW (k := 0) rfl) rfl hKK hW hS rfl hl.1 rfl (Nat.le_of_ble_eq_true rfl) dL_law_1122 ⟨(by show cells + 1 + 0 + 0 ≤ 601024; omega), (by show slots + 6 + 0 + 0 ≤ 7293034; omega)⟩ (fun H locs hW hS _ _ => ?_)
    refine lv_iload hx hb dL_law_1125 (lv_at hl 1 rfl) ?_
    refine lv_icmp_eq (tgt := 1132) hx hb dL_law_1127 (by decide) (fun _ => ?_) (fun k => absurd hth k)
    refine lv_iload hx hb dL_law_1132 (lv_at hl 1 rfl) ?_
    refine lv_if_ne (tgt := 1149) hx hb dL_law_1134 (by decide) (fun k => absurd rfl k) (fun _ => ?_)
    refine lv_aload_n hx hb dL_law_1137 rfl (lv_at hl 3 rfl) ?_
    refine lv_iconst (v := (0)) hx hb dL_law_1138 (by decide) ?_
    refine va_lald hx hb hKK.1 (wd_x hW (k := 47) rfl) 0 1 (n := 1) rfl rfl (by unfold vp_in; decide) dL_law_1139 ?_
    rw [show vp_updL O 0 (y).toInt64 (0 : Int32).toNatClampNeg = (y).toInt64 from rfl, hfv]
    refine lv_iload hx hb dL_law_1140 (lv_at hl 0 rfl) ?_
    refine lv_i2l hx hb dL_law_1142 rfl ?_
    refine W.lcmp hx hb dL_law_1143 ?_
    rw [lg_same]
    refine lv_if_eq (tgt := 1149) hx hb dL_law_1144 (by decide) (fun _ => ?_) (fun k => absurd rfl k)
    refine lv_goto (tgt := 2131) hx hb dL_law_1149 (by decide) ?_
    refine W.widen (k := cells + 12) (n := slots + 2700) (by omega) (by omega) ?_
    exact kk lo1 S M1 (vp_updL O 0 (y).toInt64) H locs ls hT1 hW hS (lv_sub hl [2, 3, 4, 5, 6] rfl)
  · skip
    refine w_call (As := [.ref (lo (10, 0, 0)), .int (xs (iv + 1).toNatClampNeg), .ref qo]) (rest := []) ⟨hx, hb, hml, hown, hts⟩ (uL_score l hl0 Γ lo S (mcl Γ q M) qo O v_z h9 (by simpa using hn)) (vx_cwSW 3 hts gL_law_L_score rfl rfl rfl (by decide +kernel) ⟨Nat.le_of_ble_eq_true rfl, Nat.le_of_ble_eq_true rfl⟩) hKK hKX hKY hKN hW hS rfl hl.1 rfl (Nat.le_of_ble_eq_true rfl) dL_law_1104 ⟨(by show cells + 1 ≤ 601024; omega), (by show slots + 6 ≤ 7293034; omega)⟩ (fun lo1 H locs hW hS h1 hmo _ => ?_)
    rw [← h1 _ v_z] at hl
    refine lv_istore (lv' := [(5, .int (kL [1] ee.1)), (4, .int iv), (3, .ref qo), (2, .ref (q 0)), (1, .ref (lo1 (10, 0, 0))), (0, .ref b)]) hx hb dL_law_1107 hl (by decide) rfl (fun ls hl => ?_)
    refine lv_aload_n hx hb dL_law_1109 rfl (lv_at hl 3 rfl) ?_
    refine lv_aload_n hx hb dL_law_1110 rfl (lv_at hl 5 rfl) ?_
    refine lv_iload hx hb dL_law_1111 (lv_at hl 1 rfl) ?_
    refine lv_iconst (v := (1)) hx hb dL_law_1113 (by decide) ?_
    refine lv_iadd hx hb dL_law_1114 ?_
    refine va_sld hx hb hX hbl hbA hS (hin 1 (by decide) (by decide)) dL_law_1115 ?_
    refine z_callV (As := [.int (xs (iv + 1).toNatClampNeg)]) (rest := []) ⟨hx, hb, hml, hown, hts⟩ (tX10_score l Γ lo1 ee.2 q M [zOut Γ qo O] h10) (cwV 1 hts gL_law_X10_score rfl rfl rfl (by decide +kernel) ⟨Nat.le_of_ble_eq_true rfl, Nat.le_of_ble_eq_true rfl⟩) (wd_x hW (k := 0) rfl) rfl hKK hW hS rfl hl.1 rfl (Nat.le_of_ble_eq_true rfl) dL_law_1116 ⟨(by show cells + 1 + 0 ≤ 601024; omega), (by show slots + 6 + 0 ≤ 7293034; omega)⟩ (fun H locs hW hS _ _ => ?_)
    refine lv_istore (lv' := [(6, .int r), (5, .int (kL [1] ee.1)), (4, .int iv), (3, .ref qo), (2, .ref (q 0)), (1, .ref (lo1 (10, 0, 0))), (0, .ref b)]) hx hb dL_law_1119 hl (by decide) rfl (fun ls hl => ?_)
    refine lv_aload_n hx hb dL_law_1121 rfl (lv_at hl 4 rfl) ?_
    refine z_callV (As := []) (rest := []) ⟨hx, hb, hml, hown, hts⟩ (tX10_thrown l Γ lo1 ee.2 q M1 [zOut Γ qo O] (show fX10_thrown M1 = some (M1 0 0) from rfl)) (cwV 0 hts gL_law_X10_thrown rfl rfl rfl (by decide +kernel) ⟨Nat.le_of_ble_eq_true rfl, Nat.le_of_ble_eq_true rfl⟩) (wd_x hW (k := 0) rfl) rfl hKK hW hS rfl hl.1 rfl (Nat.le_of_ble_eq_true rfl) dL_law_1122 ⟨(by show cells + 1 + 0 + 0 ≤ 601024; omega), (by show slots + 6 + 0 + 0 ≤ 7293034; omega)⟩ (fun H locs hW hS _ _ => ?_)
    refine lv_iload hx hb dL_law_1125 (lv_at hl 1 rfl) ?_
    refine lv_icmp_eq (tgt := 1132) hx hb dL_law_1127 (by decide) (fun _ => ?_) (fun k => absurd hth k)
    refine lv_iload hx hb dL_law_1132 (lv_at hl 1 rfl) ?_
    refine lv_if_ne (tgt := 1149) hx hb dL_law_1134 (by decide) (fun _ => ?_) (fun k => absurd k (kL_ne _ _ hn (Nat.le_of_ble_eq_true rfl)))
    refine lv_goto (tgt := 2131) hx hb dL_law_1149 (by decide) ?_
    refine W.widen (k := cells + 12) (n := slots + 2700) (by omega) (by omega) ?_
    exact kk lo1 ee.2 M1 O H locs ls hT1 hW hS (lv_sub hl [2, 3, 4, 5, 6] rfl)

set_option maxHeartbeats 4000000 in
set_option maxRecDepth 100000 in
theorem lw_c15 {p : Program} {e : Env} {s : State} {m : MethodId} {below : List Frame} {meth : Method} {c : Code} {Q : State → Prop} (l : Launch) (hl0 : l.stackTraces = false) {Γ : zG} {T : zSt → zMs → Prop} (hT : zSteps T) {b L : Nat} {xs : Nat → Int32} (C0 : lwC p s m meth c Γ b L xs) {lo : zId → Nat} {S : zSt} {q : Nat → Nat} {M : zMs} {qo : Nat} {O : Nat → Int64} {iv : Int32} {cells slots : Nat} {H : Heap} {locs : List Loc} {ls : Array Slot} (hTT : T S M) (hW : Wd Γ lo S (mcl Γ q M ++ [zOut Γ qo O]) H) (hS : va_S (zA Γ) s.heap H locs) (hl : lv_has ls 8 (lwLv lo (q 0) qo b iv)) (hin : ∀ k : Int32, 0 ≤ k → k ≤ 5 → vp_in (iv + k) L) (hc : cells + 12 ≤ 601024) (hs : slots + 2700 ≤ 7293034) (kk : ∀ (lo1 : zId → Nat) (S1 : zSt) (M1 : zMs) (O1 : Nat → Int64) (H1 : Heap) (locs1 : List Loc) (ls1 : Array Slot), T S1 M1 → Wd Γ lo1 S1 (mcl Γ q M1 ++ [zOut Γ qo O1]) H1 → va_S (zA Γ) s.heap H1 locs1 → lv_has ls1 8 (lwLv lo1 (q 0) qo b iv) → W p l e room_1 s m #[Value.ref b] below meth c H1 locs1 (cells + 12) (slots + 2700) Q (F0 m 2131 ls1 [])) : W p l e room_1 s m #[Value.ref b] below meth c H locs cells slots Q (F0 m 1152 ls []) := by
  obtain ⟨hx, hb, hml, hown, hts, hX, hbl, hbA, hB0, hKK, hKX, hKY, hKN⟩ := C0
  have v_z : zV S (10, 0, 0) = true := hT.1 _ _ hTT
  have hl : lv_has ls 8 [(4, .int iv), (3, .ref qo), (2, .ref (q 0)), (1, .ref (lo (10, 0, 0))), (0, .ref b)] := hl
  refine lv_aload_n hx hb dL_law_1152 rfl (lv_at hl 3 rfl) ?_
  refine lv_aload_n hx hb dL_law_1153 rfl (lv_at hl 4 rfl) ?_
  refine lv_iload hx hb dL_law_1154 (lv_at hl 0 rfl) ?_
  refine lv_iconst (v := (1)) hx hb dL_law_1156 (by decide) ?_
  refine lv_iadd hx hb dL_law_1157 ?_
  refine va_sld hx hb hX hbl hbA hS (hin 1 (by decide) (by decide)) dL_law_1158 ?_
  refine lv_aload_n hx hb dL_law_1159 rfl (lv_at hl 1 rfl) ?_
  rcases st_scoreByLog hT S M (xs (iv + 1).toNatClampNeg) hTT with ⟨y, r, M1, h9, h10, hth, hfv, hT1⟩ | ⟨ee, r, M1, h9, h10, hn, hth, hT1⟩
  · dsimp only at hfv hT1
    refine w_call (As := [.ref (lo (10, 0, 0)), .int (xs (iv + 1).toNatClampNeg), .ref qo]) (rest := []) ⟨hx, hb, hml, hown, hts⟩ (tL_scoreByLog l Γ lo S (mcl Γ q M) qo O v_z h9) (vx_cwSW 3 hts gL_law_L_scoreByLog rfl rfl rfl (by decide +kernel) ⟨Nat.le_of_ble_eq_true rfl, Nat.le_of_ble_eq_true rfl⟩) hKK hKX hKY hKN hW hS rfl hl.1 rfl (Nat.le_of_ble_eq_true rfl) dL_law_1160 ⟨(by show cells + 1 ≤ 601024; omega), (by show slots + 6 ≤ 7293034; omega)⟩ (fun lo1 H locs hW hS h1 hmo _ => ?_)
    rw [← h1 _ v_z] at hl
    refine lv_istore (lv' := [(5, .int (0 : Int32)), (4, .int iv), (3, .ref qo), (2, .ref (q 0)), (1, .ref (lo1 (10, 0, 0))), (0, .ref b)]) hx hb dL_law_1163 hl (by decide) rfl (fun ls hl => ?_)
    refine lv_aload_n hx hb dL_law_1165 rfl (lv_at hl 3 rfl) ?_
    refine lv_aload_n hx hb dL_law_1166 rfl (lv_at hl 5 rfl) ?_
    refine lv_iload hx hb dL_law_1167 (lv_at hl 1 rfl) ?_
    refine lv_iconst (v := (1)) hx hb dL_law_1169 (by decide) ?_
    refine lv_iadd hx hb dL_law_1170 ?_
    refine va_sld hx hb hX hbl hbA hS (hin 1 (by decide) (by decide)) dL_law_1171 ?_
    refine z_callV (As := [.int (xs (iv + 1).toNatClampNeg)]) (rest := []) ⟨hx, hb, hml, hown, hts⟩ (tX10_scoreByLog l Γ lo1 y.2 q M [zOut Γ qo (vp_updL O 0 (y.1).toInt64)] h10) (cwV 1 hts gL_law_X10_scoreByLog rfl rfl rfl (by decide +kernel) ⟨Nat.le_of_ble_eq_true rfl, Nat.le_of_ble_eq_true rfl⟩) (wd_x hW (k := 0) rfl) rfl hKK hW hS rfl hl.1 rfl (Nat.le_of_ble_eq_true rfl) dL_law_1172 ⟨(by show cells + 1 + 0 ≤ 601024; omega), (by show slots + 6 + 0 ≤ 7293034; omega)⟩ (fun H locs hW hS _ _ => ?_)
    refine lv_istore (lv' := [(6, .int r), (5, .int (0 : Int32)), (4, .int iv), (3, .ref qo), (2, .ref (q 0)), (1, .ref (lo1 (10, 0, 0))), (0, .ref b)]) hx hb dL_law_1175 hl (by decide) rfl (fun ls hl => ?_)
    refine lv_aload_n hx hb dL_law_1177 rfl (lv_at hl 4 rfl) ?_
    refine z_callV (As := []) (rest := []) ⟨hx, hb, hml, hown, hts⟩ (tX10_thrown l Γ lo1 y.2 q M1 [zOut Γ qo (vp_updL O 0 (y.1).toInt64)] (show fX10_thrown M1 = some (M1 0 0) from rfl)) (cwV 0 hts gL_law_X10_thrown rfl rfl rfl (by decide +kernel) ⟨Nat.le_of_ble_eq_true rfl, Nat.le_of_ble_eq_true rfl⟩) (wd_x hW (k := 0) rfl) rfl hKK hW hS rfl hl.1 rfl (Nat.le_of_ble_eq_true rfl) dL_law_1178 ⟨(by show cells + 1 + 0 + 0 ≤ 601024; omega), (by show slots + 6 + 0 + 0 ≤ 7293034; omega)⟩ (fun H locs hW hS _ _ => ?_)
    refine lv_iload hx hb dL_law_1181 (lv_at hl 1 rfl) ?_
    refine lv_icmp_eq (tgt := 1188) hx hb dL_law_1183 (by decide) (fun _ => ?_) (fun k => absurd hth k)
    refine lv_iload hx hb dL_law_1188 (lv_at hl 1 rfl) ?_
    refine lv_if_ne (tgt := 1205) hx hb dL_law_1190 (by decide) (fun k => absurd rfl k) (fun _ => ?_)
    refine lv_aload_n hx hb dL_law_1193 rfl (lv_at hl 3 rfl) ?_
    refine lv_iconst (v := (0)) hx hb dL_law_1194 (by decide) ?_
    refine va_lald hx hb hKK.1 (wd_x hW (k := 47) rfl) 0 1 (n := 1) rfl rfl (by unfold vp_in; decide) dL_law_1195 ?_
    rw [show vp_updL O 0 (y.1).toInt64 (0 : Int32).toNatClampNeg = (y.1).toInt64 from rfl, hfv]
    refine lv_iload hx hb dL_law_1196 (lv_at hl 0 rfl) ?_
    refine lv_i2l hx hb dL_law_1198 rfl ?_
    refine W.lcmp hx hb dL_law_1199 ?_
    rw [lg_same]
    refine lv_if_eq (tgt := 1205) hx hb dL_law_1200 (by decide) (fun _ => ?_) (fun k => absurd rfl k)
    refine lv_goto (tgt := 2131) hx hb dL_law_1205 (by decide) ?_
    refine W.widen (k := cells + 12) (n := slots + 2700) (by omega) (by omega) ?_
    exact kk lo1 y.2 M1 (vp_updL O 0 (y.1).toInt64) H locs ls hT1 hW hS (lv_sub hl [2, 3, 4, 5, 6] rfl)
  · skip
    refine w_call (As := [.ref (lo (10, 0, 0)), .int (xs (iv + 1).toNatClampNeg), .ref qo]) (rest := []) ⟨hx, hb, hml, hown, hts⟩ (uL_scoreByLog l hl0 Γ lo S (mcl Γ q M) qo O v_z h9 (by simpa using hn)) (vx_cwSW 3 hts gL_law_L_scoreByLog rfl rfl rfl (by decide +kernel) ⟨Nat.le_of_ble_eq_true rfl, Nat.le_of_ble_eq_true rfl⟩) hKK hKX hKY hKN hW hS rfl hl.1 rfl (Nat.le_of_ble_eq_true rfl) dL_law_1160 ⟨(by show cells + 1 ≤ 601024; omega), (by show slots + 6 ≤ 7293034; omega)⟩ (fun lo1 H locs hW hS h1 hmo _ => ?_)
    rw [← h1 _ v_z] at hl
    refine lv_istore (lv' := [(5, .int (kL [1] ee.1)), (4, .int iv), (3, .ref qo), (2, .ref (q 0)), (1, .ref (lo1 (10, 0, 0))), (0, .ref b)]) hx hb dL_law_1163 hl (by decide) rfl (fun ls hl => ?_)
    refine lv_aload_n hx hb dL_law_1165 rfl (lv_at hl 3 rfl) ?_
    refine lv_aload_n hx hb dL_law_1166 rfl (lv_at hl 5 rfl) ?_
    refine lv_iload hx hb dL_law_1167 (lv_at hl 1 rfl) ?_
    refine lv_iconst (v := (1)) hx hb dL_law_1169 (by decide) ?_
    refine lv_iadd hx hb dL_law_1170 ?_
    refine va_sld hx hb hX hbl hbA hS (hin 1 (by decide) (by decide)) dL_law_1171 ?_
    refine z_callV (As := [.int (xs (iv + 1).toNatClampNeg)]) (rest := []) ⟨hx, hb, hml, hown, hts⟩ (tX10_scoreByLog l Γ lo1 ee.2 q M [zOut Γ qo O] h10) (cwV 1 hts gL_law_X10_scoreByLog rfl rfl rfl (by decide +kernel) ⟨Nat.le_of_ble_eq_true rfl, Nat.le_of_ble_eq_true rfl⟩) (wd_x hW (k := 0) rfl) rfl hKK hW hS rfl hl.1 rfl (Nat.le_of_ble_eq_true rfl) dL_law_1172 ⟨(by show cells + 1 + 0 ≤ 601024; omega), (by show slots + 6 + 0 ≤ 7293034; omega)⟩ (fun H locs hW hS _ _ => ?_)
    refine lv_istore (lv' := [(6, .int r), (5, .int (kL [1] ee.1)), (4, .int iv), (3, .ref qo), (2, .ref (q 0)), (1, .ref (lo1 (10, 0, 0))), (0, .ref b)]) hx hb dL_law_1175 hl (by decide) rfl (fun ls hl => ?_)
    refine lv_aload_n hx hb dL_law_1177 rfl (lv_at hl 4 rfl) ?_
    refine z_callV (As := []) (rest := []) ⟨hx, hb, hml, hown, hts⟩ (tX10_thrown l Γ lo1 ee.2 q M1 [zOut Γ qo O] (show fX10_thrown M1 = some (M1 0 0) from rfl)) (cwV 0 hts gL_law_X10_thrown rfl rfl rfl (by decide +kernel) ⟨Nat.le_of_ble_eq_true rfl, Nat.le_of_ble_eq_true rfl⟩) (wd_x hW (k := 0) rfl) rfl hKK hW hS rfl hl.1 rfl (Nat.le_of_ble_eq_true rfl) dL_law_1178 ⟨(by show cells + 1 + 0 + 0 ≤ 601024; omega), (by show slots + 6 + 0 + 0 ≤ 7293034; omega)⟩ (fun H locs hW hS _ _ => ?_)
    refine lv_iload hx hb dL_law_1181 (lv_at hl 1 rfl) ?_
    refine lv_icmp_eq (tgt := 1188) hx hb dL_law_1183 (by decide) (fun _ => ?_) (fun k => absurd hth k)
    refine lv_iload hx hb dL_law_1188 (lv_at hl 1 rfl) ?_
    refine lv_if_ne (tgt := 1205) hx hb dL_law_1190 (by decide) (fun _ => ?_) (fun k => absurd k (kL_ne _ _ hn (Nat.le_of_ble_eq_true rfl)))
    refine lv_goto (tgt := 2131) hx hb dL_law_1205 (by decide) ?_
    refine W.widen (k := cells + 12) (n := slots + 2700) (by omega) (by omega) ?_
    exact kk lo1 ee.2 M1 O H locs ls hT1 hW hS (lv_sub hl [2, 3, 4, 5, 6] rfl)

set_option maxHeartbeats 4000000 in
set_option maxRecDepth 100000 in
theorem lw_c16 {p : Program} {e : Env} {s : State} {m : MethodId} {below : List Frame} {meth : Method} {c : Code} {Q : State → Prop} (l : Launch) (hl0 : l.stackTraces = false) {Γ : zG} {T : zSt → zMs → Prop} (hT : zSteps T) {b L : Nat} {xs : Nat → Int32} (C0 : lwC p s m meth c Γ b L xs) {lo : zId → Nat} {S : zSt} {q : Nat → Nat} {M : zMs} {qo : Nat} {O : Nat → Int64} {iv : Int32} {cells slots : Nat} {H : Heap} {locs : List Loc} {ls : Array Slot} (hTT : T S M) (hW : Wd Γ lo S (mcl Γ q M ++ [zOut Γ qo O]) H) (hS : va_S (zA Γ) s.heap H locs) (hl : lv_has ls 8 (lwLv lo (q 0) qo b iv)) (hin : ∀ k : Int32, 0 ≤ k → k ≤ 5 → vp_in (iv + k) L) (hc : cells + 12 ≤ 601024) (hs : slots + 2700 ≤ 7293034) (kk : ∀ (lo1 : zId → Nat) (S1 : zSt) (M1 : zMs) (O1 : Nat → Int64) (H1 : Heap) (locs1 : List Loc) (ls1 : Array Slot), T S1 M1 → Wd Γ lo1 S1 (mcl Γ q M1 ++ [zOut Γ qo O1]) H1 → va_S (zA Γ) s.heap H1 locs1 → lv_has ls1 8 (lwLv lo1 (q 0) qo b iv) → W p l e room_1 s m #[Value.ref b] below meth c H1 locs1 (cells + 12) (slots + 2700) Q (F0 m 2131 ls1 [])) : W p l e room_1 s m #[Value.ref b] below meth c H locs cells slots Q (F0 m 1208 ls []) := by
  obtain ⟨hx, hb, hml, hown, hts, hX, hbl, hbA, hB0, hKK, hKX, hKY, hKN⟩ := C0
  have v_z : zV S (10, 0, 0) = true := hT.1 _ _ hTT
  have hl : lv_has ls 8 [(4, .int iv), (3, .ref qo), (2, .ref (q 0)), (1, .ref (lo (10, 0, 0))), (0, .ref b)] := hl
  refine lv_aload_n hx hb dL_law_1208 rfl (lv_at hl 3 rfl) ?_
  refine lv_aload_n hx hb dL_law_1209 rfl (lv_at hl 4 rfl) ?_
  refine lv_iload hx hb dL_law_1210 (lv_at hl 0 rfl) ?_
  refine lv_iconst (v := (1)) hx hb dL_law_1212 (by decide) ?_
  refine lv_iadd hx hb dL_law_1213 ?_
  refine va_sld hx hb hX hbl hbA hS (hin 1 (by decide) (by decide)) dL_law_1214 ?_
  refine lv_aload_n hx hb dL_law_1215 rfl (lv_at hl 1 rfl) ?_
  rcases st_valid hT S M (xs (iv + 1).toNatClampNeg) hTT with ⟨y, r, M1, h9, h10, hth, hfv, hT1⟩ | ⟨ee, r, M1, h9, h10, hn, hth, hT1⟩
  · dsimp only at hfv hT1
    refine w_call (As := [.ref (lo (10, 0, 0)), .int (xs (iv + 1).toNatClampNeg), .ref qo]) (rest := []) ⟨hx, hb, hml, hown, hts⟩ (tL_valid l Γ lo S (mcl Γ q M) qo O v_z h9) (vx_cwSW 3 hts gL_law_L_valid rfl rfl rfl (by decide +kernel) ⟨Nat.le_of_ble_eq_true rfl, Nat.le_of_ble_eq_true rfl⟩) hKK hKX hKY hKN hW hS rfl hl.1 rfl (Nat.le_of_ble_eq_true rfl) dL_law_1216 ⟨(by show cells + 1 ≤ 601024; omega), (by show slots + 6 ≤ 7293034; omega)⟩ (fun lo1 H locs hW hS h1 hmo _ => ?_)
    rw [← h1 _ v_z] at hl
    refine lv_istore (lv' := [(5, .int (0 : Int32)), (4, .int iv), (3, .ref qo), (2, .ref (q 0)), (1, .ref (lo1 (10, 0, 0))), (0, .ref b)]) hx hb dL_law_1219 hl (by decide) rfl (fun ls hl => ?_)
    refine lv_aload_n hx hb dL_law_1221 rfl (lv_at hl 3 rfl) ?_
    refine lv_aload_n hx hb dL_law_1222 rfl (lv_at hl 5 rfl) ?_
    refine lv_iload hx hb dL_law_1223 (lv_at hl 1 rfl) ?_
    refine lv_iconst (v := (1)) hx hb dL_law_1225 (by decide) ?_
    refine lv_iadd hx hb dL_law_1226 ?_
    refine va_sld hx hb hX hbl hbA hS (hin 1 (by decide) (by decide)) dL_law_1227 ?_
    refine z_callV (As := [.int (xs (iv + 1).toNatClampNeg)]) (rest := []) ⟨hx, hb, hml, hown, hts⟩ (tX10_valid l Γ lo1 y.2 q M [zOut Γ qo (vp_updL O 0 (y.1).toInt64)] h10) (cwV 1 hts gL_law_X10_valid rfl rfl rfl (by decide +kernel) ⟨Nat.le_of_ble_eq_true rfl, Nat.le_of_ble_eq_true rfl⟩) (wd_x hW (k := 0) rfl) rfl hKK hW hS rfl hl.1 rfl (Nat.le_of_ble_eq_true rfl) dL_law_1228 ⟨(by show cells + 1 + 0 ≤ 601024; omega), (by show slots + 6 + 0 ≤ 7293034; omega)⟩ (fun H locs hW hS _ _ => ?_)
    refine lv_istore (lv' := [(6, .int r), (5, .int (0 : Int32)), (4, .int iv), (3, .ref qo), (2, .ref (q 0)), (1, .ref (lo1 (10, 0, 0))), (0, .ref b)]) hx hb dL_law_1231 hl (by decide) rfl (fun ls hl => ?_)
    refine lv_aload_n hx hb dL_law_1233 rfl (lv_at hl 4 rfl) ?_
    refine z_callV (As := []) (rest := []) ⟨hx, hb, hml, hown, hts⟩ (tX10_thrown l Γ lo1 y.2 q M1 [zOut Γ qo (vp_updL O 0 (y.1).toInt64)] (show fX10_thrown M1 = some (M1 0 0) from rfl)) (cwV 0 hts gL_law_X10_thrown rfl rfl rfl (by decide +kernel) ⟨Nat.le_of_ble_eq_true rfl, Nat.le_of_ble_eq_true rfl⟩) (wd_x hW (k := 0) rfl) rfl hKK hW hS rfl hl.1 rfl (Nat.le_of_ble_eq_true rfl) dL_law_1234 ⟨(by show cells + 1 + 0 + 0 ≤ 601024; omega), (by show slots + 6 + 0 + 0 ≤ 7293034; omega)⟩ (fun H locs hW hS _ _ => ?_)
    refine lv_iload hx hb dL_law_1237 (lv_at hl 1 rfl) ?_
    refine lv_icmp_eq (tgt := 1244) hx hb dL_law_1239 (by decide) (fun _ => ?_) (fun k => absurd hth k)
    refine lv_iload hx hb dL_law_1244 (lv_at hl 1 rfl) ?_
    refine lv_if_ne (tgt := 1261) hx hb dL_law_1246 (by decide) (fun k => absurd rfl k) (fun _ => ?_)
    refine lv_aload_n hx hb dL_law_1249 rfl (lv_at hl 3 rfl) ?_
    refine lv_iconst (v := (0)) hx hb dL_law_1250 (by decide) ?_
    refine va_lald hx hb hKK.1 (wd_x hW (k := 47) rfl) 0 1 (n := 1) rfl rfl (by unfold vp_in; decide) dL_law_1251 ?_
    rw [show vp_updL O 0 (y.1).toInt64 (0 : Int32).toNatClampNeg = (y.1).toInt64 from rfl, hfv]
    refine lv_iload hx hb dL_law_1252 (lv_at hl 0 rfl) ?_
    refine lv_i2l hx hb dL_law_1254 rfl ?_
    refine W.lcmp hx hb dL_law_1255 ?_
    rw [lg_same]
    refine lv_if_eq (tgt := 1261) hx hb dL_law_1256 (by decide) (fun _ => ?_) (fun k => absurd rfl k)
    refine lv_goto (tgt := 2131) hx hb dL_law_1261 (by decide) ?_
    refine W.widen (k := cells + 12) (n := slots + 2700) (by omega) (by omega) ?_
    exact kk lo1 y.2 M1 (vp_updL O 0 (y.1).toInt64) H locs ls hT1 hW hS (lv_sub hl [2, 3, 4, 5, 6] rfl)
  · skip
    refine w_call (As := [.ref (lo (10, 0, 0)), .int (xs (iv + 1).toNatClampNeg), .ref qo]) (rest := []) ⟨hx, hb, hml, hown, hts⟩ (uL_valid l hl0 Γ lo S (mcl Γ q M) qo O v_z h9 (by simpa using hn)) (vx_cwSW 3 hts gL_law_L_valid rfl rfl rfl (by decide +kernel) ⟨Nat.le_of_ble_eq_true rfl, Nat.le_of_ble_eq_true rfl⟩) hKK hKX hKY hKN hW hS rfl hl.1 rfl (Nat.le_of_ble_eq_true rfl) dL_law_1216 ⟨(by show cells + 1 ≤ 601024; omega), (by show slots + 6 ≤ 7293034; omega)⟩ (fun lo1 H locs hW hS h1 hmo _ => ?_)
    rw [← h1 _ v_z] at hl
    refine lv_istore (lv' := [(5, .int (kL [1] ee.1)), (4, .int iv), (3, .ref qo), (2, .ref (q 0)), (1, .ref (lo1 (10, 0, 0))), (0, .ref b)]) hx hb dL_law_1219 hl (by decide) rfl (fun ls hl => ?_)
    refine lv_aload_n hx hb dL_law_1221 rfl (lv_at hl 3 rfl) ?_
    refine lv_aload_n hx hb dL_law_1222 rfl (lv_at hl 5 rfl) ?_
    refine lv_iload hx hb dL_law_1223 (lv_at hl 1 rfl) ?_
    refine lv_iconst (v := (1)) hx hb dL_law_1225 (by decide) ?_
    refine lv_iadd hx hb dL_law_1226 ?_
    refine va_sld hx hb hX hbl hbA hS (hin 1 (by decide) (by decide)) dL_law_1227 ?_
    refine z_callV (As := [.int (xs (iv + 1).toNatClampNeg)]) (rest := []) ⟨hx, hb, hml, hown, hts⟩ (tX10_valid l Γ lo1 ee.2 q M [zOut Γ qo O] h10) (cwV 1 hts gL_law_X10_valid rfl rfl rfl (by decide +kernel) ⟨Nat.le_of_ble_eq_true rfl, Nat.le_of_ble_eq_true rfl⟩) (wd_x hW (k := 0) rfl) rfl hKK hW hS rfl hl.1 rfl (Nat.le_of_ble_eq_true rfl) dL_law_1228 ⟨(by show cells + 1 + 0 ≤ 601024; omega), (by show slots + 6 + 0 ≤ 7293034; omega)⟩ (fun H locs hW hS _ _ => ?_)
    refine lv_istore (lv' := [(6, .int r), (5, .int (kL [1] ee.1)), (4, .int iv), (3, .ref qo), (2, .ref (q 0)), (1, .ref (lo1 (10, 0, 0))), (0, .ref b)]) hx hb dL_law_1231 hl (by decide) rfl (fun ls hl => ?_)
    refine lv_aload_n hx hb dL_law_1233 rfl (lv_at hl 4 rfl) ?_
    refine z_callV (As := []) (rest := []) ⟨hx, hb, hml, hown, hts⟩ (tX10_thrown l Γ lo1 ee.2 q M1 [zOut Γ qo O] (show fX10_thrown M1 = some (M1 0 0) from rfl)) (cwV 0 hts gL_law_X10_thrown rfl rfl rfl (by decide +kernel) ⟨Nat.le_of_ble_eq_true rfl, Nat.le_of_ble_eq_true rfl⟩) (wd_x hW (k := 0) rfl) rfl hKK hW hS rfl hl.1 rfl (Nat.le_of_ble_eq_true rfl) dL_law_1234 ⟨(by show cells + 1 + 0 + 0 ≤ 601024; omega), (by show slots + 6 + 0 + 0 ≤ 7293034; omega)⟩ (fun H locs hW hS _ _ => ?_)
    refine lv_iload hx hb dL_law_1237 (lv_at hl 1 rfl) ?_
    refine lv_icmp_eq (tgt := 1244) hx hb dL_law_1239 (by decide) (fun _ => ?_) (fun k => absurd hth k)
    refine lv_iload hx hb dL_law_1244 (lv_at hl 1 rfl) ?_
    refine lv_if_ne (tgt := 1261) hx hb dL_law_1246 (by decide) (fun _ => ?_) (fun k => absurd k (kL_ne _ _ hn (Nat.le_of_ble_eq_true rfl)))
    refine lv_goto (tgt := 2131) hx hb dL_law_1261 (by decide) ?_
    refine W.widen (k := cells + 12) (n := slots + 2700) (by omega) (by omega) ?_
    exact kk lo1 ee.2 M1 O H locs ls hT1 hW hS (lv_sub hl [2, 3, 4, 5, 6] rfl)

set_option maxHeartbeats 4000000 in
set_option maxRecDepth 100000 in
theorem lw_c17 {p : Program} {e : Env} {s : State} {m : MethodId} {below : List Frame} {meth : Method} {c : Code} {Q : State → Prop} (l : Launch) (hl0 : l.stackTraces = false) {Γ : zG} {T : zSt → zMs → Prop} (hT : zSteps T) {b L : Nat} {xs : Nat → Int32} (C0 : lwC p s m meth c Γ b L xs) {lo : zId → Nat} {S : zSt} {q : Nat → Nat} {M : zMs} {qo : Nat} {O : Nat → Int64} {iv : Int32} {cells slots : Nat} {H : Heap} {locs : List Loc} {ls : Array Slot} (hTT : T S M) (hW : Wd Γ lo S (mcl Γ q M ++ [zOut Γ qo O]) H) (hS : va_S (zA Γ) s.heap H locs) (hl : lv_has ls 8 (lwLv lo (q 0) qo b iv)) (hin : ∀ k : Int32, 0 ≤ k → k ≤ 5 → vp_in (iv + k) L) (hc : cells + 12 ≤ 601024) (hs : slots + 2700 ≤ 7293034) (kk : ∀ (lo1 : zId → Nat) (S1 : zSt) (M1 : zMs) (O1 : Nat → Int64) (H1 : Heap) (locs1 : List Loc) (ls1 : Array Slot), T S1 M1 → Wd Γ lo1 S1 (mcl Γ q M1 ++ [zOut Γ qo O1]) H1 → va_S (zA Γ) s.heap H1 locs1 → lv_has ls1 8 (lwLv lo1 (q 0) qo b iv) → W p l e room_1 s m #[Value.ref b] below meth c H1 locs1 (cells + 12) (slots + 2700) Q (F0 m 2131 ls1 [])) : W p l e room_1 s m #[Value.ref b] below meth c H locs cells slots Q (F0 m 1264 ls []) := by
  obtain ⟨hx, hb, hml, hown, hts, hX, hbl, hbA, hB0, hKK, hKX, hKY, hKN⟩ := C0
  have v_z : zV S (10, 0, 0) = true := hT.1 _ _ hTT
  have hl : lv_has ls 8 [(4, .int iv), (3, .ref qo), (2, .ref (q 0)), (1, .ref (lo (10, 0, 0))), (0, .ref b)] := hl
  refine lv_aload_n hx hb dL_law_1264 rfl (lv_at hl 3 rfl) ?_
  refine lv_aload_n hx hb dL_law_1265 rfl (lv_at hl 4 rfl) ?_
  refine lv_iload hx hb dL_law_1266 (lv_at hl 0 rfl) ?_
  refine lv_iconst (v := (1)) hx hb dL_law_1268 (by decide) ?_
  refine lv_iadd hx hb dL_law_1269 ?_
  refine va_sld hx hb hX hbl hbA hS (hin 1 (by decide) (by decide)) dL_law_1270 ?_
  refine lv_aload_n hx hb dL_law_1271 rfl (lv_at hl 1 rfl) ?_
  rcases st_logged hT S M (xs (iv + 1).toNatClampNeg) hTT with ⟨y, r, M1, h9, h10, hth, hfv, hT1⟩ | ⟨ee, r, M1, h9, h10, hn, hth, hT1⟩
  · dsimp only at hfv hT1
    refine w_call (As := [.ref (lo (10, 0, 0)), .int (xs (iv + 1).toNatClampNeg), .ref qo]) (rest := []) ⟨hx, hb, hml, hown, hts⟩ (tL_logged l Γ lo S (mcl Γ q M) qo O v_z h9) (vx_cwSW 3 hts gL_law_L_logged rfl rfl rfl (by decide +kernel) ⟨Nat.le_of_ble_eq_true rfl, Nat.le_of_ble_eq_true rfl⟩) hKK hKX hKY hKN hW hS rfl hl.1 rfl (Nat.le_of_ble_eq_true rfl) dL_law_1272 ⟨(by show cells + 1 ≤ 601024; omega), (by show slots + 6 ≤ 7293034; omega)⟩ (fun lo1 H locs hW hS h1 hmo _ => ?_)
    rw [← h1 _ v_z] at hl
    refine lv_istore (lv' := [(5, .int (0 : Int32)), (4, .int iv), (3, .ref qo), (2, .ref (q 0)), (1, .ref (lo1 (10, 0, 0))), (0, .ref b)]) hx hb dL_law_1275 hl (by decide) rfl (fun ls hl => ?_)
    refine lv_aload_n hx hb dL_law_1277 rfl (lv_at hl 3 rfl) ?_
    refine lv_aload_n hx hb dL_law_1278 rfl (lv_at hl 5 rfl) ?_
    refine lv_iload hx hb dL_law_1279 (lv_at hl 1 rfl) ?_
    refine lv_iconst (v := (1)) hx hb dL_law_1281 (by decide) ?_
    refine lv_iadd hx hb dL_law_1282 ?_
    refine va_sld hx hb hX hbl hbA hS (hin 1 (by decide) (by decide)) dL_law_1283 ?_
    refine z_callV (As := [.int (xs (iv + 1).toNatClampNeg)]) (rest := []) ⟨hx, hb, hml, hown, hts⟩ (tX10_logged l Γ lo1 S q M [zOut Γ qo (vp_updL O 0 (y).toInt64)] h10) (cwV 1 hts gL_law_X10_logged rfl rfl rfl (by decide +kernel) ⟨Nat.le_of_ble_eq_true rfl, Nat.le_of_ble_eq_true rfl⟩) (wd_x hW (k := 0) rfl) rfl hKK hW hS rfl hl.1 rfl (Nat.le_of_ble_eq_true rfl) dL_law_1284 ⟨(by show cells + 1 + 0 ≤ 601024; omega), (by show slots + 6 + 0 ≤ 7293034; omega)⟩ (fun H locs hW hS _ _ => ?_)
    refine lv_istore (lv' := [(6, .int r), (5, .int (0 : Int32)), (4, .int iv), (3, .ref qo), (2, .ref (q 0)), (1, .ref (lo1 (10, 0, 0))), (0, .ref b)]) hx hb dL_law_1287 hl (by decide) rfl (fun ls hl => ?_)
    refine lv_aload_n hx hb dL_law_1289 rfl (lv_at hl 4 rfl) ?_
    refine z_callV (As := []) (rest := []) ⟨hx, hb, hml, hown, hts⟩ (tX10_thrown l Γ lo1 S q M1 [zOut Γ qo (vp_updL O 0 (y).toInt64)] (show fX10_thrown M1 = some (M1 0 0) from rfl)) (cwV 0 hts gL_law_X10_thrown rfl rfl rfl (by decide +kernel) ⟨Nat.le_of_ble_eq_true rfl, Nat.le_of_ble_eq_true rfl⟩) (wd_x hW (k := 0) rfl) rfl hKK hW hS rfl hl.1 rfl (Nat.le_of_ble_eq_true rfl) dL_law_1290 ⟨(by show cells + 1 + 0 + 0 ≤ 601024; omega), (by show slots + 6 + 0 + 0 ≤ 7293034; omega)⟩ (fun H locs hW hS _ _ => ?_)
    refine lv_iload hx hb dL_law_1293 (lv_at hl 1 rfl) ?_
    refine lv_icmp_eq (tgt := 1300) hx hb dL_law_1295 (by decide) (fun _ => ?_) (fun k => absurd hth k)
    refine lv_iload hx hb dL_law_1300 (lv_at hl 1 rfl) ?_
    refine lv_if_ne (tgt := 1317) hx hb dL_law_1302 (by decide) (fun k => absurd rfl k) (fun _ => ?_)
    refine lv_aload_n hx hb dL_law_1305 rfl (lv_at hl 3 rfl) ?_
    refine lv_iconst (v := (0)) hx hb dL_law_1306 (by decide) ?_
    refine va_lald hx hb hKK.1 (wd_x hW (k := 47) rfl) 0 1 (n := 1) rfl rfl (by unfold vp_in; decide) dL_law_1307 ?_
    rw [show vp_updL O 0 (y).toInt64 (0 : Int32).toNatClampNeg = (y).toInt64 from rfl, hfv]
    refine lv_iload hx hb dL_law_1308 (lv_at hl 0 rfl) ?_
    refine lv_i2l hx hb dL_law_1310 rfl ?_
    refine W.lcmp hx hb dL_law_1311 ?_
    rw [lg_same]
    refine lv_if_eq (tgt := 1317) hx hb dL_law_1312 (by decide) (fun _ => ?_) (fun k => absurd rfl k)
    refine lv_goto (tgt := 2131) hx hb dL_law_1317 (by decide) ?_
    refine W.widen (k := cells + 12) (n := slots + 2700) (by omega) (by omega) ?_
    exact kk lo1 S M1 (vp_updL O 0 (y).toInt64) H locs ls hT1 hW hS (lv_sub hl [2, 3, 4, 5, 6] rfl)
  · skip
    refine w_call (As := [.ref (lo (10, 0, 0)), .int (xs (iv + 1).toNatClampNeg), .ref qo]) (rest := []) ⟨hx, hb, hml, hown, hts⟩ (uL_logged l hl0 Γ lo S (mcl Γ q M) qo O v_z h9 (by simpa using hn)) (vx_cwSW 3 hts gL_law_L_logged rfl rfl rfl (by decide +kernel) ⟨Nat.le_of_ble_eq_true rfl, Nat.le_of_ble_eq_true rfl⟩) hKK hKX hKY hKN hW hS rfl hl.1 rfl (Nat.le_of_ble_eq_true rfl) dL_law_1272 ⟨(by show cells + 1 ≤ 601024; omega), (by show slots + 6 ≤ 7293034; omega)⟩ (fun lo1 H locs hW hS h1 hmo _ => ?_)
    rw [← h1 _ v_z] at hl
    refine lv_istore (lv' := [(5, .int (kL [1] ee.1)), (4, .int iv), (3, .ref qo), (2, .ref (q 0)), (1, .ref (lo1 (10, 0, 0))), (0, .ref b)]) hx hb dL_law_1275 hl (by decide) rfl (fun ls hl => ?_)
    refine lv_aload_n hx hb dL_law_1277 rfl (lv_at hl 3 rfl) ?_
    refine lv_aload_n hx hb dL_law_1278 rfl (lv_at hl 5 rfl) ?_
    refine lv_iload hx hb dL_law_1279 (lv_at hl 1 rfl) ?_
    refine lv_iconst (v := (1)) hx hb dL_law_1281 (by decide) ?_
    refine lv_iadd hx hb dL_law_1282 ?_
    refine va_sld hx hb hX hbl hbA hS (hin 1 (by decide) (by decide)) dL_law_1283 ?_
    refine z_callV (As := [.int (xs (iv + 1).toNatClampNeg)]) (rest := []) ⟨hx, hb, hml, hown, hts⟩ (tX10_logged l Γ lo1 ee.2 q M [zOut Γ qo O] h10) (cwV 1 hts gL_law_X10_logged rfl rfl rfl (by decide +kernel) ⟨Nat.le_of_ble_eq_true rfl, Nat.le_of_ble_eq_true rfl⟩) (wd_x hW (k := 0) rfl) rfl hKK hW hS rfl hl.1 rfl (Nat.le_of_ble_eq_true rfl) dL_law_1284 ⟨(by show cells + 1 + 0 ≤ 601024; omega), (by show slots + 6 + 0 ≤ 7293034; omega)⟩ (fun H locs hW hS _ _ => ?_)
    refine lv_istore (lv' := [(6, .int r), (5, .int (kL [1] ee.1)), (4, .int iv), (3, .ref qo), (2, .ref (q 0)), (1, .ref (lo1 (10, 0, 0))), (0, .ref b)]) hx hb dL_law_1287 hl (by decide) rfl (fun ls hl => ?_)
    refine lv_aload_n hx hb dL_law_1289 rfl (lv_at hl 4 rfl) ?_
    refine z_callV (As := []) (rest := []) ⟨hx, hb, hml, hown, hts⟩ (tX10_thrown l Γ lo1 ee.2 q M1 [zOut Γ qo O] (show fX10_thrown M1 = some (M1 0 0) from rfl)) (cwV 0 hts gL_law_X10_thrown rfl rfl rfl (by decide +kernel) ⟨Nat.le_of_ble_eq_true rfl, Nat.le_of_ble_eq_true rfl⟩) (wd_x hW (k := 0) rfl) rfl hKK hW hS rfl hl.1 rfl (Nat.le_of_ble_eq_true rfl) dL_law_1290 ⟨(by show cells + 1 + 0 + 0 ≤ 601024; omega), (by show slots + 6 + 0 + 0 ≤ 7293034; omega)⟩ (fun H locs hW hS _ _ => ?_)
    refine lv_iload hx hb dL_law_1293 (lv_at hl 1 rfl) ?_
    refine lv_icmp_eq (tgt := 1300) hx hb dL_law_1295 (by decide) (fun _ => ?_) (fun k => absurd hth k)
    refine lv_iload hx hb dL_law_1300 (lv_at hl 1 rfl) ?_
    refine lv_if_ne (tgt := 1317) hx hb dL_law_1302 (by decide) (fun _ => ?_) (fun k => absurd k (kL_ne _ _ hn (Nat.le_of_ble_eq_true rfl)))
    refine lv_goto (tgt := 2131) hx hb dL_law_1317 (by decide) ?_
    refine W.widen (k := cells + 12) (n := slots + 2700) (by omega) (by omega) ?_
    exact kk lo1 ee.2 M1 O H locs ls hT1 hW hS (lv_sub hl [2, 3, 4, 5, 6] rfl)

set_option maxHeartbeats 4000000 in
set_option maxRecDepth 100000 in
theorem lw_c18 {p : Program} {e : Env} {s : State} {m : MethodId} {below : List Frame} {meth : Method} {c : Code} {Q : State → Prop} (l : Launch) (hl0 : l.stackTraces = false) {Γ : zG} {T : zSt → zMs → Prop} (hT : zSteps T) {b L : Nat} {xs : Nat → Int32} (C0 : lwC p s m meth c Γ b L xs) {lo : zId → Nat} {S : zSt} {q : Nat → Nat} {M : zMs} {qo : Nat} {O : Nat → Int64} {iv : Int32} {cells slots : Nat} {H : Heap} {locs : List Loc} {ls : Array Slot} (hTT : T S M) (hW : Wd Γ lo S (mcl Γ q M ++ [zOut Γ qo O]) H) (hS : va_S (zA Γ) s.heap H locs) (hl : lv_has ls 8 (lwLv lo (q 0) qo b iv)) (hin : ∀ k : Int32, 0 ≤ k → k ≤ 5 → vp_in (iv + k) L) (hc : cells + 12 ≤ 601024) (hs : slots + 2700 ≤ 7293034) (kk : ∀ (lo1 : zId → Nat) (S1 : zSt) (M1 : zMs) (O1 : Nat → Int64) (H1 : Heap) (locs1 : List Loc) (ls1 : Array Slot), T S1 M1 → Wd Γ lo1 S1 (mcl Γ q M1 ++ [zOut Γ qo O1]) H1 → va_S (zA Γ) s.heap H1 locs1 → lv_has ls1 8 (lwLv lo1 (q 0) qo b iv) → W p l e room_1 s m #[Value.ref b] below meth c H1 locs1 (cells + 12) (slots + 2700) Q (F0 m 2131 ls1 [])) : W p l e room_1 s m #[Value.ref b] below meth c H locs cells slots Q (F0 m 1320 ls []) := by
  obtain ⟨hx, hb, hml, hown, hts, hX, hbl, hbA, hB0, hKK, hKX, hKY, hKN⟩ := C0
  have v_z : zV S (10, 0, 0) = true := hT.1 _ _ hTT
  have hl : lv_has ls 8 [(4, .int iv), (3, .ref qo), (2, .ref (q 0)), (1, .ref (lo (10, 0, 0))), (0, .ref b)] := hl
  refine lv_aload_n hx hb dL_law_1320 rfl (lv_at hl 3 rfl) ?_
  refine lv_aload_n hx hb dL_law_1321 rfl (lv_at hl 4 rfl) ?_
  refine lv_iload hx hb dL_law_1322 (lv_at hl 0 rfl) ?_
  refine lv_iconst (v := (1)) hx hb dL_law_1324 (by decide) ?_
  refine lv_iadd hx hb dL_law_1325 ?_
  refine va_sld hx hb hX hbl hbA hS (hin 1 (by decide) (by decide)) dL_law_1326 ?_
  refine lv_aload_n hx hb dL_law_1327 rfl (lv_at hl 4 rfl) ?_
  refine lv_iload hx hb dL_law_1328 (lv_at hl 0 rfl) ?_
  refine lv_iconst (v := (2)) hx hb dL_law_1330 (by decide) ?_
  refine lv_iadd hx hb dL_law_1331 ?_
  refine va_sld hx hb hX hbl hbA hS (hin 2 (by decide) (by decide)) dL_law_1332 ?_
  refine lv_aload_n hx hb dL_law_1333 rfl (lv_at hl 1 rfl) ?_
  rcases st_entryAt hT S M (xs (iv + 1).toNatClampNeg) (xs (iv + 2).toNatClampNeg) hTT with ⟨y, r, M1, h9, h10, hth, hfv, hT1⟩ | ⟨ee, r, M1, h9, h10, hn, hth, hT1⟩
  · dsimp only at hfv hT1
    refine w_call (As := [.ref (lo (10, 0, 0)), .int (xs (iv + 1).toNatClampNeg), .int (xs (iv + 2).toNatClampNeg), .ref qo]) (rest := []) ⟨hx, hb, hml, hown, hts⟩ (tL_entryAt l Γ lo S (mcl Γ q M) qo O v_z h9) (vx_cwSW 4 hts gL_law_L_entryAt rfl rfl rfl (by decide +kernel) ⟨Nat.le_of_ble_eq_true rfl, Nat.le_of_ble_eq_true rfl⟩) hKK hKX hKY hKN hW hS rfl hl.1 rfl (Nat.le_of_ble_eq_true rfl) dL_law_1334 ⟨(by show cells + 1 ≤ 601024; omega), (by show slots + 6 ≤ 7293034; omega)⟩ (fun lo1 H locs hW hS h1 hmo _ => ?_)
    rw [← h1 _ v_z] at hl
    refine lv_istore (lv' := [(5, .int (0 : Int32)), (4, .int iv), (3, .ref qo), (2, .ref (q 0)), (1, .ref (lo1 (10, 0, 0))), (0, .ref b)]) hx hb dL_law_1337 hl (by decide) rfl (fun ls hl => ?_)
    refine lv_aload_n hx hb dL_law_1339 rfl (lv_at hl 3 rfl) ?_
    refine lv_aload_n hx hb dL_law_1340 rfl (lv_at hl 5 rfl) ?_
    refine lv_iload hx hb dL_law_1341 (lv_at hl 1 rfl) ?_
    refine lv_iconst (v := (1)) hx hb dL_law_1343 (by decide) ?_
    refine lv_iadd hx hb dL_law_1344 ?_
    refine va_sld hx hb hX hbl hbA hS (hin 1 (by decide) (by decide)) dL_law_1345 ?_
    refine lv_aload_n hx hb dL_law_1346 rfl (lv_at hl 5 rfl) ?_
    refine lv_iload hx hb dL_law_1347 (lv_at hl 1 rfl) ?_
    refine lv_iconst (v := (2)) hx hb dL_law_1349 (by decide) ?_
    refine lv_iadd hx hb dL_law_1350 ?_
    refine va_sld hx hb hX hbl hbA hS (hin 2 (by decide) (by decide)) dL_law_1351 ?_
    refine z_callV (As := [.int (xs (iv + 1).toNatClampNeg), .int (xs (iv + 2).toNatClampNeg)]) (rest := []) ⟨hx, hb, hml, hown, hts⟩ (tX10_entryAt l Γ lo1 S q M [zOut Γ qo (vp_updL O 0 y)] h10) (cwV 2 hts gL_law_X10_entryAt rfl rfl rfl (by decide +kernel) ⟨Nat.le_of_ble_eq_true rfl, Nat.le_of_ble_eq_true rfl⟩) (wd_x hW (k := 0) rfl) rfl hKK hW hS rfl hl.1 rfl (Nat.le_of_ble_eq_true rfl) dL_law_1352 ⟨(by show cells + 1 + 0 ≤ 601024; omega), (by show slots + 6 + 0 ≤ 7293034; omega)⟩ (fun H locs hW hS _ _ => ?_)
    refine lv_lstore (lv' := [(6, .long r), (5, .int (0 : Int32)), (4, .int iv), (3, .ref qo), (2, .ref (q 0)), (1, .ref (lo1 (10, 0, 0))), (0, .ref b)]) hx hb dL_law_1355 hl (by decide) rfl (fun ls hl => ?_)
    refine lv_aload_n hx hb dL_law_1357 rfl (lv_at hl 4 rfl) ?_
    refine z_callV (As := []) (rest := []) ⟨hx, hb, hml, hown, hts⟩ (tX10_thrown l Γ lo1 S q M1 [zOut Γ qo (vp_updL O 0 y)] (show fX10_thrown M1 = some (M1 0 0) from rfl)) (cwV 0 hts gL_law_X10_thrown rfl rfl rfl (by decide +kernel) ⟨Nat.le_of_ble_eq_true rfl, Nat.le_of_ble_eq_true rfl⟩) (wd_x hW (k := 0) rfl) rfl hKK hW hS rfl hl.1 rfl (Nat.le_of_ble_eq_true rfl) dL_law_1358 ⟨(by show cells + 1 + 0 + 0 ≤ 601024; omega), (by show slots + 6 + 0 + 0 ≤ 7293034; omega)⟩ (fun H locs hW hS _ _ => ?_)
    refine lv_iload hx hb dL_law_1361 (lv_at hl 1 rfl) ?_
    refine lv_icmp_eq (tgt := 1368) hx hb dL_law_1363 (by decide) (fun _ => ?_) (fun k => absurd hth k)
    refine lv_iload hx hb dL_law_1368 (lv_at hl 1 rfl) ?_
    refine lv_if_ne (tgt := 1384) hx hb dL_law_1370 (by decide) (fun k => absurd rfl k) (fun _ => ?_)
    refine lv_aload_n hx hb dL_law_1373 rfl (lv_at hl 3 rfl) ?_
    refine lv_iconst (v := (0)) hx hb dL_law_1374 (by decide) ?_
    refine va_lald hx hb hKK.1 (wd_x hW (k := 47) rfl) 0 1 (n := 1) rfl rfl (by unfold vp_in; decide) dL_law_1375 ?_
    rw [show vp_updL O 0 y (0 : Int32).toNatClampNeg = y from rfl, hfv]
    refine lv_lload hx hb dL_law_1376 (lv_at hl 0 rfl) ?_
    refine W.lcmp hx hb dL_law_1378 ?_
    rw [lg_same]
    refine lv_if_eq (tgt := 1384) hx hb dL_law_1379 (by decide) (fun _ => ?_) (fun k => absurd rfl k)
    refine lv_goto (tgt := 2131) hx hb dL_law_1384 (by decide) ?_
    refine W.widen (k := cells + 12) (n := slots + 2700) (by omega) (by omega) ?_
    exact kk lo1 S M1 (vp_updL O 0 y) H locs ls hT1 hW hS (lv_sub hl [2, 3, 4, 5, 6] rfl)
  · skip
    refine w_call (As := [.ref (lo (10, 0, 0)), .int (xs (iv + 1).toNatClampNeg), .int (xs (iv + 2).toNatClampNeg), .ref qo]) (rest := []) ⟨hx, hb, hml, hown, hts⟩ (uL_entryAt l hl0 Γ lo S (mcl Γ q M) qo O v_z h9 (by simpa using hn)) (vx_cwSW 4 hts gL_law_L_entryAt rfl rfl rfl (by decide +kernel) ⟨Nat.le_of_ble_eq_true rfl, Nat.le_of_ble_eq_true rfl⟩) hKK hKX hKY hKN hW hS rfl hl.1 rfl (Nat.le_of_ble_eq_true rfl) dL_law_1334 ⟨(by show cells + 1 ≤ 601024; omega), (by show slots + 6 ≤ 7293034; omega)⟩ (fun lo1 H locs hW hS h1 hmo _ => ?_)
    rw [← h1 _ v_z] at hl
    refine lv_istore (lv' := [(5, .int (kL [1] ee.1)), (4, .int iv), (3, .ref qo), (2, .ref (q 0)), (1, .ref (lo1 (10, 0, 0))), (0, .ref b)]) hx hb dL_law_1337 hl (by decide) rfl (fun ls hl => ?_)
    refine lv_aload_n hx hb dL_law_1339 rfl (lv_at hl 3 rfl) ?_
    refine lv_aload_n hx hb dL_law_1340 rfl (lv_at hl 5 rfl) ?_
    refine lv_iload hx hb dL_law_1341 (lv_at hl 1 rfl) ?_
    refine lv_iconst (v := (1)) hx hb dL_law_1343 (by decide) ?_
    refine lv_iadd hx hb dL_law_1344 ?_
    refine va_sld hx hb hX hbl hbA hS (hin 1 (by decide) (by decide)) dL_law_1345 ?_
    refine lv_aload_n hx hb dL_law_1346 rfl (lv_at hl 5 rfl) ?_
    refine lv_iload hx hb dL_law_1347 (lv_at hl 1 rfl) ?_
    refine lv_iconst (v := (2)) hx hb dL_law_1349 (by decide) ?_
    refine lv_iadd hx hb dL_law_1350 ?_
    refine va_sld hx hb hX hbl hbA hS (hin 2 (by decide) (by decide)) dL_law_1351 ?_
    refine z_callV (As := [.int (xs (iv + 1).toNatClampNeg), .int (xs (iv + 2).toNatClampNeg)]) (rest := []) ⟨hx, hb, hml, hown, hts⟩ (tX10_entryAt l Γ lo1 ee.2 q M [zOut Γ qo O] h10) (cwV 2 hts gL_law_X10_entryAt rfl rfl rfl (by decide +kernel) ⟨Nat.le_of_ble_eq_true rfl, Nat.le_of_ble_eq_true rfl⟩) (wd_x hW (k := 0) rfl) rfl hKK hW hS rfl hl.1 rfl (Nat.le_of_ble_eq_true rfl) dL_law_1352 ⟨(by show cells + 1 + 0 ≤ 601024; omega), (by show slots + 6 + 0 ≤ 7293034; omega)⟩ (fun H locs hW hS _ _ => ?_)
    refine lv_lstore (lv' := [(6, .long r), (5, .int (kL [1] ee.1)), (4, .int iv), (3, .ref qo), (2, .ref (q 0)), (1, .ref (lo1 (10, 0, 0))), (0, .ref b)]) hx hb dL_law_1355 hl (by decide) rfl (fun ls hl => ?_)
    refine lv_aload_n hx hb dL_law_1357 rfl (lv_at hl 4 rfl) ?_
    refine z_callV (As := []) (rest := []) ⟨hx, hb, hml, hown, hts⟩ (tX10_thrown l Γ lo1 ee.2 q M1 [zOut Γ qo O] (show fX10_thrown M1 = some (M1 0 0) from rfl)) (cwV 0 hts gL_law_X10_thrown rfl rfl rfl (by decide +kernel) ⟨Nat.le_of_ble_eq_true rfl, Nat.le_of_ble_eq_true rfl⟩) (wd_x hW (k := 0) rfl) rfl hKK hW hS rfl hl.1 rfl (Nat.le_of_ble_eq_true rfl) dL_law_1358 ⟨(by show cells + 1 + 0 + 0 ≤ 601024; omega), (by show slots + 6 + 0 + 0 ≤ 7293034; omega)⟩ (fun H locs hW hS _ _ => ?_)
    refine lv_iload hx hb dL_law_1361 (lv_at hl 1 rfl) ?_
    refine lv_icmp_eq (tgt := 1368) hx hb dL_law_1363 (by decide) (fun _ => ?_) (fun k => absurd hth k)
    refine lv_iload hx hb dL_law_1368 (lv_at hl 1 rfl) ?_
    refine lv_if_ne (tgt := 1384) hx hb dL_law_1370 (by decide) (fun _ => ?_) (fun k => absurd k (kL_ne _ _ hn (Nat.le_of_ble_eq_true rfl)))
    refine lv_goto (tgt := 2131) hx hb dL_law_1384 (by decide) ?_
    refine W.widen (k := cells + 12) (n := slots + 2700) (by omega) (by omega) ?_
    exact kk lo1 ee.2 M1 O H locs ls hT1 hW hS (lv_sub hl [2, 3, 4, 5, 6] rfl)

set_option maxHeartbeats 4000000 in
set_option maxRecDepth 100000 in
theorem lw_c19 {p : Program} {e : Env} {s : State} {m : MethodId} {below : List Frame} {meth : Method} {c : Code} {Q : State → Prop} (l : Launch) (hl0 : l.stackTraces = false) {Γ : zG} {T : zSt → zMs → Prop} (hT : zSteps T) {b L : Nat} {xs : Nat → Int32} (C0 : lwC p s m meth c Γ b L xs) {lo : zId → Nat} {S : zSt} {q : Nat → Nat} {M : zMs} {qo : Nat} {O : Nat → Int64} {iv : Int32} {cells slots : Nat} {H : Heap} {locs : List Loc} {ls : Array Slot} (hTT : T S M) (hW : Wd Γ lo S (mcl Γ q M ++ [zOut Γ qo O]) H) (hS : va_S (zA Γ) s.heap H locs) (hl : lv_has ls 8 (lwLv lo (q 0) qo b iv)) (hin : ∀ k : Int32, 0 ≤ k → k ≤ 5 → vp_in (iv + k) L) (hc : cells + 12 ≤ 601024) (hs : slots + 2700 ≤ 7293034) (kk : ∀ (lo1 : zId → Nat) (S1 : zSt) (M1 : zMs) (O1 : Nat → Int64) (H1 : Heap) (locs1 : List Loc) (ls1 : Array Slot), T S1 M1 → Wd Γ lo1 S1 (mcl Γ q M1 ++ [zOut Γ qo O1]) H1 → va_S (zA Γ) s.heap H1 locs1 → lv_has ls1 8 (lwLv lo1 (q 0) qo b iv) → W p l e room_1 s m #[Value.ref b] below meth c H1 locs1 (cells + 12) (slots + 2700) Q (F0 m 2131 ls1 [])) : W p l e room_1 s m #[Value.ref b] below meth c H locs cells slots Q (F0 m 1387 ls []) := by
  obtain ⟨hx, hb, hml, hown, hts, hX, hbl, hbA, hB0, hKK, hKX, hKY, hKN⟩ := C0
  have v_z : zV S (10, 0, 0) = true := hT.1 _ _ hTT
  have hl : lv_has ls 8 [(4, .int iv), (3, .ref qo), (2, .ref (q 0)), (1, .ref (lo (10, 0, 0))), (0, .ref b)] := hl
  refine lv_aload_n hx hb dL_law_1387 rfl (lv_at hl 3 rfl) ?_
  refine lv_aload_n hx hb dL_law_1388 rfl (lv_at hl 4 rfl) ?_
  refine lv_iload hx hb dL_law_1389 (lv_at hl 0 rfl) ?_
  refine lv_iconst (v := (1)) hx hb dL_law_1391 (by decide) ?_
  refine lv_iadd hx hb dL_law_1392 ?_
  refine va_sld hx hb hX hbl hbA hS (hin 1 (by decide) (by decide)) dL_law_1393 ?_
  refine lv_aload_n hx hb dL_law_1394 rfl (lv_at hl 1 rfl) ?_
  rcases st_twin hT S M (xs (iv + 1).toNatClampNeg) hTT with ⟨y, r, M1, h9, h10, hth, hfv, hT1⟩ | ⟨ee, r, M1, h9, h10, hn, hth, hT1⟩
  · dsimp only at hfv hT1
    refine w_call (As := [.ref (lo (10, 0, 0)), .int (xs (iv + 1).toNatClampNeg), .ref qo]) (rest := []) ⟨hx, hb, hml, hown, hts⟩ (tL_twin l Γ lo S (mcl Γ q M) qo O v_z h9) (vx_cwSW 3 hts gL_law_L_twin rfl rfl rfl (by decide +kernel) ⟨Nat.le_of_ble_eq_true rfl, Nat.le_of_ble_eq_true rfl⟩) hKK hKX hKY hKN hW hS rfl hl.1 rfl (Nat.le_of_ble_eq_true rfl) dL_law_1395 ⟨(by show cells + 1 ≤ 601024; omega), (by show slots + 6 ≤ 7293034; omega)⟩ (fun lo1 H locs hW hS h1 hmo _ => ?_)
    rw [← h1 _ v_z] at hl
    refine lv_istore (lv' := [(5, .int (0 : Int32)), (4, .int iv), (3, .ref qo), (2, .ref (q 0)), (1, .ref (lo1 (10, 0, 0))), (0, .ref b)]) hx hb dL_law_1398 hl (by decide) rfl (fun ls hl => ?_)
    refine lv_aload_n hx hb dL_law_1400 rfl (lv_at hl 3 rfl) ?_
    refine lv_aload_n hx hb dL_law_1401 rfl (lv_at hl 5 rfl) ?_
    refine lv_iload hx hb dL_law_1402 (lv_at hl 1 rfl) ?_
    refine lv_iconst (v := (1)) hx hb dL_law_1404 (by decide) ?_
    refine lv_iadd hx hb dL_law_1405 ?_
    refine va_sld hx hb hX hbl hbA hS (hin 1 (by decide) (by decide)) dL_law_1406 ?_
    refine z_callV (As := [.int (xs (iv + 1).toNatClampNeg)]) (rest := []) ⟨hx, hb, hml, hown, hts⟩ (tX10_twin l Γ lo1 S q M [zOut Γ qo (vp_updL O 0 (y).toInt64)] h10) (cwV 1 hts gL_law_X10_twin rfl rfl rfl (by decide +kernel) ⟨Nat.le_of_ble_eq_true rfl, Nat.le_of_ble_eq_true rfl⟩) (wd_x hW (k := 0) rfl) rfl hKK hW hS rfl hl.1 rfl (Nat.le_of_ble_eq_true rfl) dL_law_1407 ⟨(by show cells + 1 + 0 ≤ 601024; omega), (by show slots + 6 + 0 ≤ 7293034; omega)⟩ (fun H locs hW hS _ _ => ?_)
    refine lv_istore (lv' := [(6, .int r), (5, .int (0 : Int32)), (4, .int iv), (3, .ref qo), (2, .ref (q 0)), (1, .ref (lo1 (10, 0, 0))), (0, .ref b)]) hx hb dL_law_1410 hl (by decide) rfl (fun ls hl => ?_)
    refine lv_aload_n hx hb dL_law_1412 rfl (lv_at hl 4 rfl) ?_
    refine z_callV (As := []) (rest := []) ⟨hx, hb, hml, hown, hts⟩ (tX10_thrown l Γ lo1 S q M1 [zOut Γ qo (vp_updL O 0 (y).toInt64)] (show fX10_thrown M1 = some (M1 0 0) from rfl)) (cwV 0 hts gL_law_X10_thrown rfl rfl rfl (by decide +kernel) ⟨Nat.le_of_ble_eq_true rfl, Nat.le_of_ble_eq_true rfl⟩) (wd_x hW (k := 0) rfl) rfl hKK hW hS rfl hl.1 rfl (Nat.le_of_ble_eq_true rfl) dL_law_1413 ⟨(by show cells + 1 + 0 + 0 ≤ 601024; omega), (by show slots + 6 + 0 + 0 ≤ 7293034; omega)⟩ (fun H locs hW hS _ _ => ?_)
    refine lv_iload hx hb dL_law_1416 (lv_at hl 1 rfl) ?_
    refine lv_icmp_eq (tgt := 1423) hx hb dL_law_1418 (by decide) (fun _ => ?_) (fun k => absurd hth k)
    refine lv_iload hx hb dL_law_1423 (lv_at hl 1 rfl) ?_
    refine lv_if_ne (tgt := 1440) hx hb dL_law_1425 (by decide) (fun k => absurd rfl k) (fun _ => ?_)
    refine lv_aload_n hx hb dL_law_1428 rfl (lv_at hl 3 rfl) ?_
    refine lv_iconst (v := (0)) hx hb dL_law_1429 (by decide) ?_
    refine va_lald hx hb hKK.1 (wd_x hW (k := 47) rfl) 0 1 (n := 1) rfl rfl (by unfold vp_in; decide) dL_law_1430 ?_
    rw [show vp_updL O 0 (y).toInt64 (0 : Int32).toNatClampNeg = (y).toInt64 from rfl, hfv]
    refine lv_iload hx hb dL_law_1431 (lv_at hl 0 rfl) ?_
    refine lv_i2l hx hb dL_law_1433 rfl ?_
    refine W.lcmp hx hb dL_law_1434 ?_
    rw [lg_same]
    refine lv_if_eq (tgt := 1440) hx hb dL_law_1435 (by decide) (fun _ => ?_) (fun k => absurd rfl k)
    refine lv_goto (tgt := 2131) hx hb dL_law_1440 (by decide) ?_
    refine W.widen (k := cells + 12) (n := slots + 2700) (by omega) (by omega) ?_
    exact kk lo1 S M1 (vp_updL O 0 (y).toInt64) H locs ls hT1 hW hS (lv_sub hl [2, 3, 4, 5, 6] rfl)
  · skip
    refine w_call (As := [.ref (lo (10, 0, 0)), .int (xs (iv + 1).toNatClampNeg), .ref qo]) (rest := []) ⟨hx, hb, hml, hown, hts⟩ (uL_twin l hl0 Γ lo S (mcl Γ q M) qo O v_z h9 (by simpa using hn)) (vx_cwSW 3 hts gL_law_L_twin rfl rfl rfl (by decide +kernel) ⟨Nat.le_of_ble_eq_true rfl, Nat.le_of_ble_eq_true rfl⟩) hKK hKX hKY hKN hW hS rfl hl.1 rfl (Nat.le_of_ble_eq_true rfl) dL_law_1395 ⟨(by show cells + 1 ≤ 601024; omega), (by show slots + 6 ≤ 7293034; omega)⟩ (fun lo1 H locs hW hS h1 hmo _ => ?_)
    rw [← h1 _ v_z] at hl
    refine lv_istore (lv' := [(5, .int (kL [1] ee.1)), (4, .int iv), (3, .ref qo), (2, .ref (q 0)), (1, .ref (lo1 (10, 0, 0))), (0, .ref b)]) hx hb dL_law_1398 hl (by decide) rfl (fun ls hl => ?_)
    refine lv_aload_n hx hb dL_law_1400 rfl (lv_at hl 3 rfl) ?_
    refine lv_aload_n hx hb dL_law_1401 rfl (lv_at hl 5 rfl) ?_
    refine lv_iload hx hb dL_law_1402 (lv_at hl 1 rfl) ?_
    refine lv_iconst (v := (1)) hx hb dL_law_1404 (by decide) ?_
    refine lv_iadd hx hb dL_law_1405 ?_
    refine va_sld hx hb hX hbl hbA hS (hin 1 (by decide) (by decide)) dL_law_1406 ?_
    refine z_callV (As := [.int (xs (iv + 1).toNatClampNeg)]) (rest := []) ⟨hx, hb, hml, hown, hts⟩ (tX10_twin l Γ lo1 ee.2 q M [zOut Γ qo O] h10) (cwV 1 hts gL_law_X10_twin rfl rfl rfl (by decide +kernel) ⟨Nat.le_of_ble_eq_true rfl, Nat.le_of_ble_eq_true rfl⟩) (wd_x hW (k := 0) rfl) rfl hKK hW hS rfl hl.1 rfl (Nat.le_of_ble_eq_true rfl) dL_law_1407 ⟨(by show cells + 1 + 0 ≤ 601024; omega), (by show slots + 6 + 0 ≤ 7293034; omega)⟩ (fun H locs hW hS _ _ => ?_)
    refine lv_istore (lv' := [(6, .int r), (5, .int (kL [1] ee.1)), (4, .int iv), (3, .ref qo), (2, .ref (q 0)), (1, .ref (lo1 (10, 0, 0))), (0, .ref b)]) hx hb dL_law_1410 hl (by decide) rfl (fun ls hl => ?_)
    refine lv_aload_n hx hb dL_law_1412 rfl (lv_at hl 4 rfl) ?_
    refine z_callV (As := []) (rest := []) ⟨hx, hb, hml, hown, hts⟩ (tX10_thrown l Γ lo1 ee.2 q M1 [zOut Γ qo O] (show fX10_thrown M1 = some (M1 0 0) from rfl)) (cwV 0 hts gL_law_X10_thrown rfl rfl rfl (by decide +kernel) ⟨Nat.le_of_ble_eq_true rfl, Nat.le_of_ble_eq_true rfl⟩) (wd_x hW (k := 0) rfl) rfl hKK hW hS rfl hl.1 rfl (Nat.le_of_ble_eq_true rfl) dL_law_1413 ⟨(by show cells + 1 + 0 + 0 ≤ 601024; omega), (by show slots + 6 + 0 + 0 ≤ 7293034; omega)⟩ (fun H locs hW hS _ _ => ?_)
    refine lv_iload hx hb dL_law_1416 (lv_at hl 1 rfl) ?_
    refine lv_icmp_eq (tgt := 1423) hx hb dL_law_1418 (by decide) (fun _ => ?_) (fun k => absurd hth k)
    refine lv_iload hx hb dL_law_1423 (lv_at hl 1 rfl) ?_
    refine lv_if_ne (tgt := 1440) hx hb dL_law_1425 (by decide) (fun _ => ?_) (fun k => absurd k (kL_ne _ _ hn (Nat.le_of_ble_eq_true rfl)))
    refine lv_goto (tgt := 2131) hx hb dL_law_1440 (by decide) ?_
    refine W.widen (k := cells + 12) (n := slots + 2700) (by omega) (by omega) ?_
    exact kk lo1 ee.2 M1 O H locs ls hT1 hW hS (lv_sub hl [2, 3, 4, 5, 6] rfl)

set_option maxHeartbeats 4000000 in
set_option maxRecDepth 100000 in
theorem lw_c20 {p : Program} {e : Env} {s : State} {m : MethodId} {below : List Frame} {meth : Method} {c : Code} {Q : State → Prop} (l : Launch) (hl0 : l.stackTraces = false) {Γ : zG} {T : zSt → zMs → Prop} (hT : zSteps T) {b L : Nat} {xs : Nat → Int32} (C0 : lwC p s m meth c Γ b L xs) {lo : zId → Nat} {S : zSt} {q : Nat → Nat} {M : zMs} {qo : Nat} {O : Nat → Int64} {iv : Int32} {cells slots : Nat} {H : Heap} {locs : List Loc} {ls : Array Slot} (hTT : T S M) (hW : Wd Γ lo S (mcl Γ q M ++ [zOut Γ qo O]) H) (hS : va_S (zA Γ) s.heap H locs) (hl : lv_has ls 8 (lwLv lo (q 0) qo b iv)) (hin : ∀ k : Int32, 0 ≤ k → k ≤ 5 → vp_in (iv + k) L) (hc : cells + 12 ≤ 601024) (hs : slots + 2700 ≤ 7293034) (kk : ∀ (lo1 : zId → Nat) (S1 : zSt) (M1 : zMs) (O1 : Nat → Int64) (H1 : Heap) (locs1 : List Loc) (ls1 : Array Slot), T S1 M1 → Wd Γ lo1 S1 (mcl Γ q M1 ++ [zOut Γ qo O1]) H1 → va_S (zA Γ) s.heap H1 locs1 → lv_has ls1 8 (lwLv lo1 (q 0) qo b iv) → W p l e room_1 s m #[Value.ref b] below meth c H1 locs1 (cells + 12) (slots + 2700) Q (F0 m 2131 ls1 [])) : W p l e room_1 s m #[Value.ref b] below meth c H locs cells slots Q (F0 m 1443 ls []) := by
  obtain ⟨hx, hb, hml, hown, hts, hX, hbl, hbA, hB0, hKK, hKX, hKY, hKN⟩ := C0
  have v_z : zV S (10, 0, 0) = true := hT.1 _ _ hTT
  have hl : lv_has ls 8 [(4, .int iv), (3, .ref qo), (2, .ref (q 0)), (1, .ref (lo (10, 0, 0))), (0, .ref b)] := hl
  refine lv_aload_n hx hb dL_law_1443 rfl (lv_at hl 3 rfl) ?_
  refine lv_aload_n hx hb dL_law_1444 rfl (lv_at hl 4 rfl) ?_
  refine lv_iload hx hb dL_law_1445 (lv_at hl 0 rfl) ?_
  refine lv_iconst (v := (1)) hx hb dL_law_1447 (by decide) ?_
  refine lv_iadd hx hb dL_law_1448 ?_
  refine va_sld hx hb hX hbl hbA hS (hin 1 (by decide) (by decide)) dL_law_1449 ?_
  refine lv_aload_n hx hb dL_law_1450 rfl (lv_at hl 4 rfl) ?_
  refine lv_iload hx hb dL_law_1451 (lv_at hl 0 rfl) ?_
  refine lv_iconst (v := (2)) hx hb dL_law_1453 (by decide) ?_
  refine lv_iadd hx hb dL_law_1454 ?_
  refine va_sld hx hb hX hbl hbA hS (hin 2 (by decide) (by decide)) dL_law_1455 ?_
  refine lv_aload_n hx hb dL_law_1456 rfl (lv_at hl 1 rfl) ?_
  rcases st_high hT S M (xs (iv + 1).toNatClampNeg) (xs (iv + 2).toNatClampNeg) hTT with ⟨y, r, M1, h9, h10, hth, hfv, hT1⟩ | ⟨ee, r, M1, h9, h10, hn, hth, hT1⟩
  · dsimp only at hfv hT1
    refine w_call (As := [.ref (lo (10, 0, 0)), .int (xs (iv + 1).toNatClampNeg), .int (xs (iv + 2).toNatClampNeg), .ref qo]) (rest := []) ⟨hx, hb, hml, hown, hts⟩ (tL_high l Γ lo S (mcl Γ q M) qo O v_z h9) (vx_cwSW 4 hts gL_law_L_high rfl rfl rfl (by decide +kernel) ⟨Nat.le_of_ble_eq_true rfl, Nat.le_of_ble_eq_true rfl⟩) hKK hKX hKY hKN hW hS rfl hl.1 rfl (Nat.le_of_ble_eq_true rfl) dL_law_1457 ⟨(by show cells + 1 ≤ 601024; omega), (by show slots + 6 ≤ 7293034; omega)⟩ (fun lo1 H locs hW hS h1 hmo _ => ?_)
    rw [← h1 _ v_z] at hl
    refine lv_istore (lv' := [(5, .int (0 : Int32)), (4, .int iv), (3, .ref qo), (2, .ref (q 0)), (1, .ref (lo1 (10, 0, 0))), (0, .ref b)]) hx hb dL_law_1460 hl (by decide) rfl (fun ls hl => ?_)
    refine lv_aload_n hx hb dL_law_1462 rfl (lv_at hl 3 rfl) ?_
    refine lv_aload_n hx hb dL_law_1463 rfl (lv_at hl 5 rfl) ?_
    refine lv_iload hx hb dL_law_1464 (lv_at hl 1 rfl) ?_
    refine lv_iconst (v := (1)) hx hb dL_law_1466 (by decide) ?_
    refine lv_iadd hx hb dL_law_1467 ?_
    refine va_sld hx hb hX hbl hbA hS (hin 1 (by decide) (by decide)) dL_law_1468 ?_
    refine lv_aload_n hx hb dL_law_1469 rfl (lv_at hl 5 rfl) ?_
    refine lv_iload hx hb dL_law_1470 (lv_at hl 1 rfl) ?_
    refine lv_iconst (v := (2)) hx hb dL_law_1472 (by decide) ?_
    refine lv_iadd hx hb dL_law_1473 ?_
    refine va_sld hx hb hX hbl hbA hS (hin 2 (by decide) (by decide)) dL_law_1474 ?_
    refine z_callV (As := [.int (xs (iv + 1).toNatClampNeg), .int (xs (iv + 2).toNatClampNeg)]) (rest := []) ⟨hx, hb, hml, hown, hts⟩ (tX10_high l Γ lo1 y.2 q M [zOut Γ qo (vp_updL O 0 (y.1).toInt64)] h10) (cwV 2 hts gL_law_X10_high rfl rfl rfl (by decide +kernel) ⟨Nat.le_of_ble_eq_true rfl, Nat.le_of_ble_eq_true rfl⟩) (wd_x hW (k := 0) rfl) rfl hKK hW hS rfl hl.1 rfl (Nat.le_of_ble_eq_true rfl) dL_law_1475 ⟨(by show cells + 1 + 0 ≤ 601024; omega), (by show slots + 6 + 0 ≤ 7293034; omega)⟩ (fun H locs hW hS _ _ => ?_)
    refine lv_istore (lv' := [(6, .int r), (5, .int (0 : Int32)), (4, .int iv), (3, .ref qo), (2, .ref (q 0)), (1, .ref (lo1 (10, 0, 0))), (0, .ref b)]) hx hb dL_law_1478 hl (by decide) rfl (fun ls hl => ?_)
    refine lv_aload_n hx hb dL_law_1480 rfl (lv_at hl 4 rfl) ?_
    refine z_callV (As := []) (rest := []) ⟨hx, hb, hml, hown, hts⟩ (tX10_thrown l Γ lo1 y.2 q M1 [zOut Γ qo (vp_updL O 0 (y.1).toInt64)] (show fX10_thrown M1 = some (M1 0 0) from rfl)) (cwV 0 hts gL_law_X10_thrown rfl rfl rfl (by decide +kernel) ⟨Nat.le_of_ble_eq_true rfl, Nat.le_of_ble_eq_true rfl⟩) (wd_x hW (k := 0) rfl) rfl hKK hW hS rfl hl.1 rfl (Nat.le_of_ble_eq_true rfl) dL_law_1481 ⟨(by show cells + 1 + 0 + 0 ≤ 601024; omega), (by show slots + 6 + 0 + 0 ≤ 7293034; omega)⟩ (fun H locs hW hS _ _ => ?_)
    refine lv_iload hx hb dL_law_1484 (lv_at hl 1 rfl) ?_
    refine lv_icmp_eq (tgt := 1491) hx hb dL_law_1486 (by decide) (fun _ => ?_) (fun k => absurd hth k)
    refine lv_iload hx hb dL_law_1491 (lv_at hl 1 rfl) ?_
    refine lv_if_ne (tgt := 1508) hx hb dL_law_1493 (by decide) (fun k => absurd rfl k) (fun _ => ?_)
    refine lv_aload_n hx hb dL_law_1496 rfl (lv_at hl 3 rfl) ?_
    refine lv_iconst (v := (0)) hx hb dL_law_1497 (by decide) ?_
    refine va_lald hx hb hKK.1 (wd_x hW (k := 47) rfl) 0 1 (n := 1) rfl rfl (by unfold vp_in; decide) dL_law_1498 ?_
    rw [show vp_updL O 0 (y.1).toInt64 (0 : Int32).toNatClampNeg = (y.1).toInt64 from rfl, hfv]
    refine lv_iload hx hb dL_law_1499 (lv_at hl 0 rfl) ?_
    refine lv_i2l hx hb dL_law_1501 rfl ?_
    refine W.lcmp hx hb dL_law_1502 ?_
    rw [lg_same]
    refine lv_if_eq (tgt := 1508) hx hb dL_law_1503 (by decide) (fun _ => ?_) (fun k => absurd rfl k)
    refine lv_goto (tgt := 2131) hx hb dL_law_1508 (by decide) ?_
    refine W.widen (k := cells + 12) (n := slots + 2700) (by omega) (by omega) ?_
    exact kk lo1 y.2 M1 (vp_updL O 0 (y.1).toInt64) H locs ls hT1 hW hS (lv_sub hl [2, 3, 4, 5, 6] rfl)
  · skip
    refine w_call (As := [.ref (lo (10, 0, 0)), .int (xs (iv + 1).toNatClampNeg), .int (xs (iv + 2).toNatClampNeg), .ref qo]) (rest := []) ⟨hx, hb, hml, hown, hts⟩ (uL_high l hl0 Γ lo S (mcl Γ q M) qo O v_z h9 (by simpa using hn)) (vx_cwSW 4 hts gL_law_L_high rfl rfl rfl (by decide +kernel) ⟨Nat.le_of_ble_eq_true rfl, Nat.le_of_ble_eq_true rfl⟩) hKK hKX hKY hKN hW hS rfl hl.1 rfl (Nat.le_of_ble_eq_true rfl) dL_law_1457 ⟨(by show cells + 1 ≤ 601024; omega), (by show slots + 6 ≤ 7293034; omega)⟩ (fun lo1 H locs hW hS h1 hmo _ => ?_)
    rw [← h1 _ v_z] at hl
    refine lv_istore (lv' := [(5, .int (kL [1, 2] ee.1)), (4, .int iv), (3, .ref qo), (2, .ref (q 0)), (1, .ref (lo1 (10, 0, 0))), (0, .ref b)]) hx hb dL_law_1460 hl (by decide) rfl (fun ls hl => ?_)
    refine lv_aload_n hx hb dL_law_1462 rfl (lv_at hl 3 rfl) ?_
    refine lv_aload_n hx hb dL_law_1463 rfl (lv_at hl 5 rfl) ?_
    refine lv_iload hx hb dL_law_1464 (lv_at hl 1 rfl) ?_
    refine lv_iconst (v := (1)) hx hb dL_law_1466 (by decide) ?_
    refine lv_iadd hx hb dL_law_1467 ?_
    refine va_sld hx hb hX hbl hbA hS (hin 1 (by decide) (by decide)) dL_law_1468 ?_
    refine lv_aload_n hx hb dL_law_1469 rfl (lv_at hl 5 rfl) ?_
    refine lv_iload hx hb dL_law_1470 (lv_at hl 1 rfl) ?_
    refine lv_iconst (v := (2)) hx hb dL_law_1472 (by decide) ?_
    refine lv_iadd hx hb dL_law_1473 ?_
    refine va_sld hx hb hX hbl hbA hS (hin 2 (by decide) (by decide)) dL_law_1474 ?_
    refine z_callV (As := [.int (xs (iv + 1).toNatClampNeg), .int (xs (iv + 2).toNatClampNeg)]) (rest := []) ⟨hx, hb, hml, hown, hts⟩ (tX10_high l Γ lo1 ee.2 q M [zOut Γ qo O] h10) (cwV 2 hts gL_law_X10_high rfl rfl rfl (by decide +kernel) ⟨Nat.le_of_ble_eq_true rfl, Nat.le_of_ble_eq_true rfl⟩) (wd_x hW (k := 0) rfl) rfl hKK hW hS rfl hl.1 rfl (Nat.le_of_ble_eq_true rfl) dL_law_1475 ⟨(by show cells + 1 + 0 ≤ 601024; omega), (by show slots + 6 + 0 ≤ 7293034; omega)⟩ (fun H locs hW hS _ _ => ?_)
    refine lv_istore (lv' := [(6, .int r), (5, .int (kL [1, 2] ee.1)), (4, .int iv), (3, .ref qo), (2, .ref (q 0)), (1, .ref (lo1 (10, 0, 0))), (0, .ref b)]) hx hb dL_law_1478 hl (by decide) rfl (fun ls hl => ?_)
    refine lv_aload_n hx hb dL_law_1480 rfl (lv_at hl 4 rfl) ?_
    refine z_callV (As := []) (rest := []) ⟨hx, hb, hml, hown, hts⟩ (tX10_thrown l Γ lo1 ee.2 q M1 [zOut Γ qo O] (show fX10_thrown M1 = some (M1 0 0) from rfl)) (cwV 0 hts gL_law_X10_thrown rfl rfl rfl (by decide +kernel) ⟨Nat.le_of_ble_eq_true rfl, Nat.le_of_ble_eq_true rfl⟩) (wd_x hW (k := 0) rfl) rfl hKK hW hS rfl hl.1 rfl (Nat.le_of_ble_eq_true rfl) dL_law_1481 ⟨(by show cells + 1 + 0 + 0 ≤ 601024; omega), (by show slots + 6 + 0 + 0 ≤ 7293034; omega)⟩ (fun H locs hW hS _ _ => ?_)
    refine lv_iload hx hb dL_law_1484 (lv_at hl 1 rfl) ?_
    refine lv_icmp_eq (tgt := 1491) hx hb dL_law_1486 (by decide) (fun _ => ?_) (fun k => absurd hth k)
    refine lv_iload hx hb dL_law_1491 (lv_at hl 1 rfl) ?_
    refine lv_if_ne (tgt := 1508) hx hb dL_law_1493 (by decide) (fun _ => ?_) (fun k => absurd k (kL_ne _ _ hn (Nat.le_of_ble_eq_true rfl)))
    refine lv_goto (tgt := 2131) hx hb dL_law_1508 (by decide) ?_
    refine W.widen (k := cells + 12) (n := slots + 2700) (by omega) (by omega) ?_
    exact kk lo1 ee.2 M1 O H locs ls hT1 hW hS (lv_sub hl [2, 3, 4, 5, 6] rfl)

set_option maxHeartbeats 4000000 in
set_option maxRecDepth 100000 in
theorem lw_c21 {p : Program} {e : Env} {s : State} {m : MethodId} {below : List Frame} {meth : Method} {c : Code} {Q : State → Prop} (l : Launch) (hl0 : l.stackTraces = false) {Γ : zG} {T : zSt → zMs → Prop} (hT : zSteps T) {b L : Nat} {xs : Nat → Int32} (C0 : lwC p s m meth c Γ b L xs) {lo : zId → Nat} {S : zSt} {q : Nat → Nat} {M : zMs} {qo : Nat} {O : Nat → Int64} {iv : Int32} {cells slots : Nat} {H : Heap} {locs : List Loc} {ls : Array Slot} (hTT : T S M) (hW : Wd Γ lo S (mcl Γ q M ++ [zOut Γ qo O]) H) (hS : va_S (zA Γ) s.heap H locs) (hl : lv_has ls 8 (lwLv lo (q 0) qo b iv)) (hin : ∀ k : Int32, 0 ≤ k → k ≤ 5 → vp_in (iv + k) L) (hc : cells + 12 ≤ 601024) (hs : slots + 2700 ≤ 7293034) (kk : ∀ (lo1 : zId → Nat) (S1 : zSt) (M1 : zMs) (O1 : Nat → Int64) (H1 : Heap) (locs1 : List Loc) (ls1 : Array Slot), T S1 M1 → Wd Γ lo1 S1 (mcl Γ q M1 ++ [zOut Γ qo O1]) H1 → va_S (zA Γ) s.heap H1 locs1 → lv_has ls1 8 (lwLv lo1 (q 0) qo b iv) → W p l e room_1 s m #[Value.ref b] below meth c H1 locs1 (cells + 12) (slots + 2700) Q (F0 m 2131 ls1 [])) : W p l e room_1 s m #[Value.ref b] below meth c H locs cells slots Q (F0 m 1511 ls []) := by
  obtain ⟨hx, hb, hml, hown, hts, hX, hbl, hbA, hB0, hKK, hKX, hKY, hKN⟩ := C0
  have v_z : zV S (10, 0, 0) = true := hT.1 _ _ hTT
  have hl : lv_has ls 8 [(4, .int iv), (3, .ref qo), (2, .ref (q 0)), (1, .ref (lo (10, 0, 0))), (0, .ref b)] := hl
  refine lv_aload_n hx hb dL_law_1511 rfl (lv_at hl 3 rfl) ?_
  refine lv_aload_n hx hb dL_law_1512 rfl (lv_at hl 4 rfl) ?_
  refine lv_iload hx hb dL_law_1513 (lv_at hl 0 rfl) ?_
  refine lv_iconst (v := (1)) hx hb dL_law_1515 (by decide) ?_
  refine lv_iadd hx hb dL_law_1516 ?_
  refine va_sld hx hb hX hbl hbA hS (hin 1 (by decide) (by decide)) dL_law_1517 ?_
  refine lv_aload_n hx hb dL_law_1518 rfl (lv_at hl 4 rfl) ?_
  refine lv_iload hx hb dL_law_1519 (lv_at hl 0 rfl) ?_
  refine lv_iconst (v := (2)) hx hb dL_law_1521 (by decide) ?_
  refine lv_iadd hx hb dL_law_1522 ?_
  refine va_sld hx hb hX hbl hbA hS (hin 2 (by decide) (by decide)) dL_law_1523 ?_
  refine lv_aload_n hx hb dL_law_1524 rfl (lv_at hl 1 rfl) ?_
  rcases st_rob hT S M (xs (iv + 1).toNatClampNeg) (xs (iv + 2).toNatClampNeg) hTT with ⟨y, r, M1, h9, h10, hth, hfv, hT1⟩ | ⟨ee, r, M1, h9, h10, hn, hth, hT1⟩
  · dsimp only at hfv hT1
    refine w_call (As := [.ref (lo (10, 0, 0)), .int (xs (iv + 1).toNatClampNeg), .int (xs (iv + 2).toNatClampNeg), .ref qo]) (rest := []) ⟨hx, hb, hml, hown, hts⟩ (tL_rob l Γ lo S (mcl Γ q M) qo O v_z h9) (vx_cwSW 4 hts gL_law_L_rob rfl rfl rfl (by decide +kernel) ⟨Nat.le_of_ble_eq_true rfl, Nat.le_of_ble_eq_true rfl⟩) hKK hKX hKY hKN hW hS rfl hl.1 rfl (Nat.le_of_ble_eq_true rfl) dL_law_1525 ⟨(by show cells + 1 ≤ 601024; omega), (by show slots + 6 ≤ 7293034; omega)⟩ (fun lo1 H locs hW hS h1 hmo _ => ?_)
    rw [← h1 _ v_z] at hl
    refine lv_istore (lv' := [(5, .int (0 : Int32)), (4, .int iv), (3, .ref qo), (2, .ref (q 0)), (1, .ref (lo1 (10, 0, 0))), (0, .ref b)]) hx hb dL_law_1528 hl (by decide) rfl (fun ls hl => ?_)
    refine lv_aload_n hx hb dL_law_1530 rfl (lv_at hl 3 rfl) ?_
    refine lv_aload_n hx hb dL_law_1531 rfl (lv_at hl 5 rfl) ?_
    refine lv_iload hx hb dL_law_1532 (lv_at hl 1 rfl) ?_
    refine lv_iconst (v := (1)) hx hb dL_law_1534 (by decide) ?_
    refine lv_iadd hx hb dL_law_1535 ?_
    refine va_sld hx hb hX hbl hbA hS (hin 1 (by decide) (by decide)) dL_law_1536 ?_
    refine lv_aload_n hx hb dL_law_1537 rfl (lv_at hl 5 rfl) ?_
    refine lv_iload hx hb dL_law_1538 (lv_at hl 1 rfl) ?_
    refine lv_iconst (v := (2)) hx hb dL_law_1540 (by decide) ?_
    refine lv_iadd hx hb dL_law_1541 ?_
    refine va_sld hx hb hX hbl hbA hS (hin 2 (by decide) (by decide)) dL_law_1542 ?_
    refine z_callV (As := [.int (xs (iv + 1).toNatClampNeg), .int (xs (iv + 2).toNatClampNeg)]) (rest := []) ⟨hx, hb, hml, hown, hts⟩ (tX10_rob l Γ lo1 y.2 q M [zOut Γ qo (vp_updL O 0 (y.1).toInt64)] h10) (cwV 2 hts gL_law_X10_rob rfl rfl rfl (by decide +kernel) ⟨Nat.le_of_ble_eq_true rfl, Nat.le_of_ble_eq_true rfl⟩) (wd_x hW (k := 0) rfl) rfl hKK hW hS rfl hl.1 rfl (Nat.le_of_ble_eq_true rfl) dL_law_1543 ⟨(by show cells + 1 + 0 ≤ 601024; omega), (by show slots + 6 + 0 ≤ 7293034; omega)⟩ (fun H locs hW hS _ _ => ?_)
    refine lv_istore (lv' := [(6, .int r), (5, .int (0 : Int32)), (4, .int iv), (3, .ref qo), (2, .ref (q 0)), (1, .ref (lo1 (10, 0, 0))), (0, .ref b)]) hx hb dL_law_1546 hl (by decide) rfl (fun ls hl => ?_)
    refine lv_aload_n hx hb dL_law_1548 rfl (lv_at hl 4 rfl) ?_
    refine z_callV (As := []) (rest := []) ⟨hx, hb, hml, hown, hts⟩ (tX10_thrown l Γ lo1 y.2 q M1 [zOut Γ qo (vp_updL O 0 (y.1).toInt64)] (show fX10_thrown M1 = some (M1 0 0) from rfl)) (cwV 0 hts gL_law_X10_thrown rfl rfl rfl (by decide +kernel) ⟨Nat.le_of_ble_eq_true rfl, Nat.le_of_ble_eq_true rfl⟩) (wd_x hW (k := 0) rfl) rfl hKK hW hS rfl hl.1 rfl (Nat.le_of_ble_eq_true rfl) dL_law_1549 ⟨(by show cells + 1 + 0 + 0 ≤ 601024; omega), (by show slots + 6 + 0 + 0 ≤ 7293034; omega)⟩ (fun H locs hW hS _ _ => ?_)
    refine lv_iload hx hb dL_law_1552 (lv_at hl 1 rfl) ?_
    refine lv_icmp_eq (tgt := 1559) hx hb dL_law_1554 (by decide) (fun _ => ?_) (fun k => absurd hth k)
    refine lv_iload hx hb dL_law_1559 (lv_at hl 1 rfl) ?_
    refine lv_if_ne (tgt := 1576) hx hb dL_law_1561 (by decide) (fun k => absurd rfl k) (fun _ => ?_)
    refine lv_aload_n hx hb dL_law_1564 rfl (lv_at hl 3 rfl) ?_
    refine lv_iconst (v := (0)) hx hb dL_law_1565 (by decide) ?_
    refine va_lald hx hb hKK.1 (wd_x hW (k := 47) rfl) 0 1 (n := 1) rfl rfl (by unfold vp_in; decide) dL_law_1566 ?_
    rw [show vp_updL O 0 (y.1).toInt64 (0 : Int32).toNatClampNeg = (y.1).toInt64 from rfl, hfv]
    refine lv_iload hx hb dL_law_1567 (lv_at hl 0 rfl) ?_
    refine lv_i2l hx hb dL_law_1569 rfl ?_
    refine W.lcmp hx hb dL_law_1570 ?_
    rw [lg_same]
    refine lv_if_eq (tgt := 1576) hx hb dL_law_1571 (by decide) (fun _ => ?_) (fun k => absurd rfl k)
    refine lv_goto (tgt := 2131) hx hb dL_law_1576 (by decide) ?_
    refine W.widen (k := cells + 12) (n := slots + 2700) (by omega) (by omega) ?_
    exact kk lo1 y.2 M1 (vp_updL O 0 (y.1).toInt64) H locs ls hT1 hW hS (lv_sub hl [2, 3, 4, 5, 6] rfl)
  · skip
    refine w_call (As := [.ref (lo (10, 0, 0)), .int (xs (iv + 1).toNatClampNeg), .int (xs (iv + 2).toNatClampNeg), .ref qo]) (rest := []) ⟨hx, hb, hml, hown, hts⟩ (uL_rob l hl0 Γ lo S (mcl Γ q M) qo O v_z h9 (by simpa using hn)) (vx_cwSW 4 hts gL_law_L_rob rfl rfl rfl (by decide +kernel) ⟨Nat.le_of_ble_eq_true rfl, Nat.le_of_ble_eq_true rfl⟩) hKK hKX hKY hKN hW hS rfl hl.1 rfl (Nat.le_of_ble_eq_true rfl) dL_law_1525 ⟨(by show cells + 1 ≤ 601024; omega), (by show slots + 6 ≤ 7293034; omega)⟩ (fun lo1 H locs hW hS h1 hmo _ => ?_)
    rw [← h1 _ v_z] at hl
    refine lv_istore (lv' := [(5, .int (kL [1, 2, 3] ee.1)), (4, .int iv), (3, .ref qo), (2, .ref (q 0)), (1, .ref (lo1 (10, 0, 0))), (0, .ref b)]) hx hb dL_law_1528 hl (by decide) rfl (fun ls hl => ?_)
    refine lv_aload_n hx hb dL_law_1530 rfl (lv_at hl 3 rfl) ?_
    refine lv_aload_n hx hb dL_law_1531 rfl (lv_at hl 5 rfl) ?_
    refine lv_iload hx hb dL_law_1532 (lv_at hl 1 rfl) ?_
    refine lv_iconst (v := (1)) hx hb dL_law_1534 (by decide) ?_
    refine lv_iadd hx hb dL_law_1535 ?_
    refine va_sld hx hb hX hbl hbA hS (hin 1 (by decide) (by decide)) dL_law_1536 ?_
    refine lv_aload_n hx hb dL_law_1537 rfl (lv_at hl 5 rfl) ?_
    refine lv_iload hx hb dL_law_1538 (lv_at hl 1 rfl) ?_
    refine lv_iconst (v := (2)) hx hb dL_law_1540 (by decide) ?_
    refine lv_iadd hx hb dL_law_1541 ?_
    refine va_sld hx hb hX hbl hbA hS (hin 2 (by decide) (by decide)) dL_law_1542 ?_
    refine z_callV (As := [.int (xs (iv + 1).toNatClampNeg), .int (xs (iv + 2).toNatClampNeg)]) (rest := []) ⟨hx, hb, hml, hown, hts⟩ (tX10_rob l Γ lo1 ee.2 q M [zOut Γ qo O] h10) (cwV 2 hts gL_law_X10_rob rfl rfl rfl (by decide +kernel) ⟨Nat.le_of_ble_eq_true rfl, Nat.le_of_ble_eq_true rfl⟩) (wd_x hW (k := 0) rfl) rfl hKK hW hS rfl hl.1 rfl (Nat.le_of_ble_eq_true rfl) dL_law_1543 ⟨(by show cells + 1 + 0 ≤ 601024; omega), (by show slots + 6 + 0 ≤ 7293034; omega)⟩ (fun H locs hW hS _ _ => ?_)
    refine lv_istore (lv' := [(6, .int r), (5, .int (kL [1, 2, 3] ee.1)), (4, .int iv), (3, .ref qo), (2, .ref (q 0)), (1, .ref (lo1 (10, 0, 0))), (0, .ref b)]) hx hb dL_law_1546 hl (by decide) rfl (fun ls hl => ?_)
    refine lv_aload_n hx hb dL_law_1548 rfl (lv_at hl 4 rfl) ?_
    refine z_callV (As := []) (rest := []) ⟨hx, hb, hml, hown, hts⟩ (tX10_thrown l Γ lo1 ee.2 q M1 [zOut Γ qo O] (show fX10_thrown M1 = some (M1 0 0) from rfl)) (cwV 0 hts gL_law_X10_thrown rfl rfl rfl (by decide +kernel) ⟨Nat.le_of_ble_eq_true rfl, Nat.le_of_ble_eq_true rfl⟩) (wd_x hW (k := 0) rfl) rfl hKK hW hS rfl hl.1 rfl (Nat.le_of_ble_eq_true rfl) dL_law_1549 ⟨(by show cells + 1 + 0 + 0 ≤ 601024; omega), (by show slots + 6 + 0 + 0 ≤ 7293034; omega)⟩ (fun H locs hW hS _ _ => ?_)
    refine lv_iload hx hb dL_law_1552 (lv_at hl 1 rfl) ?_
    refine lv_icmp_eq (tgt := 1559) hx hb dL_law_1554 (by decide) (fun _ => ?_) (fun k => absurd hth k)
    refine lv_iload hx hb dL_law_1559 (lv_at hl 1 rfl) ?_
    refine lv_if_ne (tgt := 1576) hx hb dL_law_1561 (by decide) (fun _ => ?_) (fun k => absurd k (kL_ne _ _ hn (Nat.le_of_ble_eq_true rfl)))
    refine lv_goto (tgt := 2131) hx hb dL_law_1576 (by decide) ?_
    refine W.widen (k := cells + 12) (n := slots + 2700) (by omega) (by omega) ?_
    exact kk lo1 ee.2 M1 O H locs ls hT1 hW hS (lv_sub hl [2, 3, 4, 5, 6] rfl)

set_option maxHeartbeats 4000000 in
set_option maxRecDepth 100000 in
theorem lw_c22 {p : Program} {e : Env} {s : State} {m : MethodId} {below : List Frame} {meth : Method} {c : Code} {Q : State → Prop} (l : Launch) (hl0 : l.stackTraces = false) {Γ : zG} {T : zSt → zMs → Prop} (hT : zSteps T) {b L : Nat} {xs : Nat → Int32} (C0 : lwC p s m meth c Γ b L xs) {lo : zId → Nat} {S : zSt} {q : Nat → Nat} {M : zMs} {qo : Nat} {O : Nat → Int64} {iv : Int32} {cells slots : Nat} {H : Heap} {locs : List Loc} {ls : Array Slot} (hTT : T S M) (hW : Wd Γ lo S (mcl Γ q M ++ [zOut Γ qo O]) H) (hS : va_S (zA Γ) s.heap H locs) (hl : lv_has ls 8 (lwLv lo (q 0) qo b iv)) (hin : ∀ k : Int32, 0 ≤ k → k ≤ 5 → vp_in (iv + k) L) (hc : cells + 12 ≤ 601024) (hs : slots + 2700 ≤ 7293034) (kk : ∀ (lo1 : zId → Nat) (S1 : zSt) (M1 : zMs) (O1 : Nat → Int64) (H1 : Heap) (locs1 : List Loc) (ls1 : Array Slot), T S1 M1 → Wd Γ lo1 S1 (mcl Γ q M1 ++ [zOut Γ qo O1]) H1 → va_S (zA Γ) s.heap H1 locs1 → lv_has ls1 8 (lwLv lo1 (q 0) qo b iv) → W p l e room_1 s m #[Value.ref b] below meth c H1 locs1 (cells + 12) (slots + 2700) Q (F0 m 2131 ls1 [])) : W p l e room_1 s m #[Value.ref b] below meth c H locs cells slots Q (F0 m 1579 ls []) := by
  obtain ⟨hx, hb, hml, hown, hts, hX, hbl, hbA, hB0, hKK, hKX, hKY, hKN⟩ := C0
  have v_z : zV S (10, 0, 0) = true := hT.1 _ _ hTT
  have hl : lv_has ls 8 [(4, .int iv), (3, .ref qo), (2, .ref (q 0)), (1, .ref (lo (10, 0, 0))), (0, .ref b)] := hl
  refine lv_aload_n hx hb dL_law_1579 rfl (lv_at hl 3 rfl) ?_
  refine lv_aload_n hx hb dL_law_1580 rfl (lv_at hl 4 rfl) ?_
  refine lv_iload hx hb dL_law_1581 (lv_at hl 0 rfl) ?_
  refine lv_iconst (v := (1)) hx hb dL_law_1583 (by decide) ?_
  refine lv_iadd hx hb dL_law_1584 ?_
  refine va_sld hx hb hX hbl hbA hS (hin 1 (by decide) (by decide)) dL_law_1585 ?_
  refine lv_aload_n hx hb dL_law_1586 rfl (lv_at hl 1 rfl) ?_
  rcases st_box hT S M (xs (iv + 1).toNatClampNeg) hTT with ⟨y, r, M1, h9, h10, hth, hfv, hT1⟩ | ⟨ee, r, M1, h9, h10, hn, hth, hT1⟩
  · dsimp only at hfv hT1
    refine w_call (As := [.ref (lo (10, 0, 0)), .int (xs (iv + 1).toNatClampNeg), .ref qo]) (rest := []) ⟨hx, hb, hml, hown, hts⟩ (tL_box l Γ lo S (mcl Γ q M) qo O v_z h9) (vx_cwSW 3 hts gL_law_L_box rfl rfl rfl (by decide +kernel) ⟨Nat.le_of_ble_eq_true rfl, Nat.le_of_ble_eq_true rfl⟩) hKK hKX hKY hKN hW hS rfl hl.1 rfl (Nat.le_of_ble_eq_true rfl) dL_law_1587 ⟨(by show cells + 1 ≤ 601024; omega), (by show slots + 6 ≤ 7293034; omega)⟩ (fun lo1 H locs hW hS h1 hmo _ => ?_)
    rw [← h1 _ v_z] at hl
    refine lv_istore (lv' := [(5, .int (0 : Int32)), (4, .int iv), (3, .ref qo), (2, .ref (q 0)), (1, .ref (lo1 (10, 0, 0))), (0, .ref b)]) hx hb dL_law_1590 hl (by decide) rfl (fun ls hl => ?_)
    refine lv_aload_n hx hb dL_law_1592 rfl (lv_at hl 3 rfl) ?_
    refine lv_aload_n hx hb dL_law_1593 rfl (lv_at hl 5 rfl) ?_
    refine lv_iload hx hb dL_law_1594 (lv_at hl 1 rfl) ?_
    refine lv_iconst (v := (1)) hx hb dL_law_1596 (by decide) ?_
    refine lv_iadd hx hb dL_law_1597 ?_
    refine va_sld hx hb hX hbl hbA hS (hin 1 (by decide) (by decide)) dL_law_1598 ?_
    refine z_callV (As := [.int (xs (iv + 1).toNatClampNeg)]) (rest := []) ⟨hx, hb, hml, hown, hts⟩ (tX10_box l Γ lo1 S q M [zOut Γ qo (vp_updL O 0 (y).toInt64)] h10) (cwV 1 hts gL_law_X10_box rfl rfl rfl (by decide +kernel) ⟨Nat.le_of_ble_eq_true rfl, Nat.le_of_ble_eq_true rfl⟩) (wd_x hW (k := 0) rfl) rfl hKK hW hS rfl hl.1 rfl (Nat.le_of_ble_eq_true rfl) dL_law_1599 ⟨(by show cells + 1 + 0 ≤ 601024; omega), (by show slots + 6 + 0 ≤ 7293034; omega)⟩ (fun H locs hW hS _ _ => ?_)
    refine lv_istore (lv' := [(6, .int r), (5, .int (0 : Int32)), (4, .int iv), (3, .ref qo), (2, .ref (q 0)), (1, .ref (lo1 (10, 0, 0))), (0, .ref b)]) hx hb dL_law_1602 hl (by decide) rfl (fun ls hl => ?_)
    refine lv_aload_n hx hb dL_law_1604 rfl (lv_at hl 4 rfl) ?_
    refine z_callV (As := []) (rest := []) ⟨hx, hb, hml, hown, hts⟩ (tX10_thrown l Γ lo1 S q M1 [zOut Γ qo (vp_updL O 0 (y).toInt64)] (show fX10_thrown M1 = some (M1 0 0) from rfl)) (cwV 0 hts gL_law_X10_thrown rfl rfl rfl (by decide +kernel) ⟨Nat.le_of_ble_eq_true rfl, Nat.le_of_ble_eq_true rfl⟩) (wd_x hW (k := 0) rfl) rfl hKK hW hS rfl hl.1 rfl (Nat.le_of_ble_eq_true rfl) dL_law_1605 ⟨(by show cells + 1 + 0 + 0 ≤ 601024; omega), (by show slots + 6 + 0 + 0 ≤ 7293034; omega)⟩ (fun H locs hW hS _ _ => ?_)
    refine lv_iload hx hb dL_law_1608 (lv_at hl 1 rfl) ?_
    refine lv_icmp_eq (tgt := 1615) hx hb dL_law_1610 (by decide) (fun _ => ?_) (fun k => absurd hth k)
    refine lv_iload hx hb dL_law_1615 (lv_at hl 1 rfl) ?_
    refine lv_if_ne (tgt := 1632) hx hb dL_law_1617 (by decide) (fun k => absurd rfl k) (fun _ => ?_)
    refine lv_aload_n hx hb dL_law_1620 rfl (lv_at hl 3 rfl) ?_
    refine lv_iconst (v := (0)) hx hb dL_law_1621 (by decide) ?_
    refine va_lald hx hb hKK.1 (wd_x hW (k := 47) rfl) 0 1 (n := 1) rfl rfl (by unfold vp_in; decide) dL_law_1622 ?_
    rw [show vp_updL O 0 (y).toInt64 (0 : Int32).toNatClampNeg = (y).toInt64 from rfl, hfv]
    refine lv_iload hx hb dL_law_1623 (lv_at hl 0 rfl) ?_
    refine lv_i2l hx hb dL_law_1625 rfl ?_
    refine W.lcmp hx hb dL_law_1626 ?_
    rw [lg_same]
    refine lv_if_eq (tgt := 1632) hx hb dL_law_1627 (by decide) (fun _ => ?_) (fun k => absurd rfl k)
    refine lv_goto (tgt := 2131) hx hb dL_law_1632 (by decide) ?_
    refine W.widen (k := cells + 12) (n := slots + 2700) (by omega) (by omega) ?_
    exact kk lo1 S M1 (vp_updL O 0 (y).toInt64) H locs ls hT1 hW hS (lv_sub hl [2, 3, 4, 5, 6] rfl)
  · skip
    refine w_call (As := [.ref (lo (10, 0, 0)), .int (xs (iv + 1).toNatClampNeg), .ref qo]) (rest := []) ⟨hx, hb, hml, hown, hts⟩ (uL_box l hl0 Γ lo S (mcl Γ q M) qo O v_z h9 (by simpa using hn)) (vx_cwSW 3 hts gL_law_L_box rfl rfl rfl (by decide +kernel) ⟨Nat.le_of_ble_eq_true rfl, Nat.le_of_ble_eq_true rfl⟩) hKK hKX hKY hKN hW hS rfl hl.1 rfl (Nat.le_of_ble_eq_true rfl) dL_law_1587 ⟨(by show cells + 1 ≤ 601024; omega), (by show slots + 6 ≤ 7293034; omega)⟩ (fun lo1 H locs hW hS h1 hmo _ => ?_)
    rw [← h1 _ v_z] at hl
    refine lv_istore (lv' := [(5, .int (kL [1] ee.1)), (4, .int iv), (3, .ref qo), (2, .ref (q 0)), (1, .ref (lo1 (10, 0, 0))), (0, .ref b)]) hx hb dL_law_1590 hl (by decide) rfl (fun ls hl => ?_)
    refine lv_aload_n hx hb dL_law_1592 rfl (lv_at hl 3 rfl) ?_
    refine lv_aload_n hx hb dL_law_1593 rfl (lv_at hl 5 rfl) ?_
    refine lv_iload hx hb dL_law_1594 (lv_at hl 1 rfl) ?_
    refine lv_iconst (v := (1)) hx hb dL_law_1596 (by decide) ?_
    refine lv_iadd hx hb dL_law_1597 ?_
    refine va_sld hx hb hX hbl hbA hS (hin 1 (by decide) (by decide)) dL_law_1598 ?_
    refine z_callV (As := [.int (xs (iv + 1).toNatClampNeg)]) (rest := []) ⟨hx, hb, hml, hown, hts⟩ (tX10_box l Γ lo1 ee.2 q M [zOut Γ qo O] h10) (cwV 1 hts gL_law_X10_box rfl rfl rfl (by decide +kernel) ⟨Nat.le_of_ble_eq_true rfl, Nat.le_of_ble_eq_true rfl⟩) (wd_x hW (k := 0) rfl) rfl hKK hW hS rfl hl.1 rfl (Nat.le_of_ble_eq_true rfl) dL_law_1599 ⟨(by show cells + 1 + 0 ≤ 601024; omega), (by show slots + 6 + 0 ≤ 7293034; omega)⟩ (fun H locs hW hS _ _ => ?_)
    refine lv_istore (lv' := [(6, .int r), (5, .int (kL [1] ee.1)), (4, .int iv), (3, .ref qo), (2, .ref (q 0)), (1, .ref (lo1 (10, 0, 0))), (0, .ref b)]) hx hb dL_law_1602 hl (by decide) rfl (fun ls hl => ?_)
    refine lv_aload_n hx hb dL_law_1604 rfl (lv_at hl 4 rfl) ?_
    refine z_callV (As := []) (rest := []) ⟨hx, hb, hml, hown, hts⟩ (tX10_thrown l Γ lo1 ee.2 q M1 [zOut Γ qo O] (show fX10_thrown M1 = some (M1 0 0) from rfl)) (cwV 0 hts gL_law_X10_thrown rfl rfl rfl (by decide +kernel) ⟨Nat.le_of_ble_eq_true rfl, Nat.le_of_ble_eq_true rfl⟩) (wd_x hW (k := 0) rfl) rfl hKK hW hS rfl hl.1 rfl (Nat.le_of_ble_eq_true rfl) dL_law_1605 ⟨(by show cells + 1 + 0 + 0 ≤ 601024; omega), (by show slots + 6 + 0 + 0 ≤ 7293034; omega)⟩ (fun H locs hW hS _ _ => ?_)
    refine lv_iload hx hb dL_law_1608 (lv_at hl 1 rfl) ?_
    refine lv_icmp_eq (tgt := 1615) hx hb dL_law_1610 (by decide) (fun _ => ?_) (fun k => absurd hth k)
    refine lv_iload hx hb dL_law_1615 (lv_at hl 1 rfl) ?_
    refine lv_if_ne (tgt := 1632) hx hb dL_law_1617 (by decide) (fun _ => ?_) (fun k => absurd k (kL_ne _ _ hn (Nat.le_of_ble_eq_true rfl)))
    refine lv_goto (tgt := 2131) hx hb dL_law_1632 (by decide) ?_
    refine W.widen (k := cells + 12) (n := slots + 2700) (by omega) (by omega) ?_
    exact kk lo1 ee.2 M1 O H locs ls hT1 hW hS (lv_sub hl [2, 3, 4, 5, 6] rfl)

set_option maxHeartbeats 4000000 in
set_option maxRecDepth 100000 in
theorem lw_c23 {p : Program} {e : Env} {s : State} {m : MethodId} {below : List Frame} {meth : Method} {c : Code} {Q : State → Prop} (l : Launch) (hl0 : l.stackTraces = false) {Γ : zG} {T : zSt → zMs → Prop} (hT : zSteps T) {b L : Nat} {xs : Nat → Int32} (C0 : lwC p s m meth c Γ b L xs) {lo : zId → Nat} {S : zSt} {q : Nat → Nat} {M : zMs} {qo : Nat} {O : Nat → Int64} {iv : Int32} {cells slots : Nat} {H : Heap} {locs : List Loc} {ls : Array Slot} (hTT : T S M) (hW : Wd Γ lo S (mcl Γ q M ++ [zOut Γ qo O]) H) (hS : va_S (zA Γ) s.heap H locs) (hl : lv_has ls 8 (lwLv lo (q 0) qo b iv)) (hin : ∀ k : Int32, 0 ≤ k → k ≤ 5 → vp_in (iv + k) L) (hc : cells + 12 ≤ 601024) (hs : slots + 2700 ≤ 7293034) (kk : ∀ (lo1 : zId → Nat) (S1 : zSt) (M1 : zMs) (O1 : Nat → Int64) (H1 : Heap) (locs1 : List Loc) (ls1 : Array Slot), T S1 M1 → Wd Γ lo1 S1 (mcl Γ q M1 ++ [zOut Γ qo O1]) H1 → va_S (zA Γ) s.heap H1 locs1 → lv_has ls1 8 (lwLv lo1 (q 0) qo b iv) → W p l e room_1 s m #[Value.ref b] below meth c H1 locs1 (cells + 12) (slots + 2700) Q (F0 m 2131 ls1 [])) : W p l e room_1 s m #[Value.ref b] below meth c H locs cells slots Q (F0 m 1635 ls []) := by
  obtain ⟨hx, hb, hml, hown, hts, hX, hbl, hbA, hB0, hKK, hKX, hKY, hKN⟩ := C0
  have v_z : zV S (10, 0, 0) = true := hT.1 _ _ hTT
  have hl : lv_has ls 8 [(4, .int iv), (3, .ref qo), (2, .ref (q 0)), (1, .ref (lo (10, 0, 0))), (0, .ref b)] := hl
  refine lv_aload_n hx hb dL_law_1635 rfl (lv_at hl 3 rfl) ?_
  refine lv_aload_n hx hb dL_law_1636 rfl (lv_at hl 4 rfl) ?_
  refine lv_iload hx hb dL_law_1637 (lv_at hl 0 rfl) ?_
  refine lv_iconst (v := (1)) hx hb dL_law_1639 (by decide) ?_
  refine lv_iadd hx hb dL_law_1640 ?_
  refine va_sld hx hb hX hbl hbA hS (hin 1 (by decide) (by decide)) dL_law_1641 ?_
  refine lv_aload_n hx hb dL_law_1642 rfl (lv_at hl 1 rfl) ?_
  rcases st_missing hT S M (xs (iv + 1).toNatClampNeg) hTT with ⟨y, r, M1, h9, h10, hth, hfv, hT1⟩ | ⟨ee, r, M1, h9, h10, hn, hth, hT1⟩
  · dsimp only at hfv hT1
    refine w_call (As := [.ref (lo (10, 0, 0)), .int (xs (iv + 1).toNatClampNeg), .ref qo]) (rest := []) ⟨hx, hb, hml, hown, hts⟩ (tL_missing l Γ lo S (mcl Γ q M) qo O v_z h9) (vx_cwSW 3 hts gL_law_L_missing rfl rfl rfl (by decide +kernel) ⟨Nat.le_of_ble_eq_true rfl, Nat.le_of_ble_eq_true rfl⟩) hKK hKX hKY hKN hW hS rfl hl.1 rfl (Nat.le_of_ble_eq_true rfl) dL_law_1643 ⟨(by show cells + 1 ≤ 601024; omega), (by show slots + 6 ≤ 7293034; omega)⟩ (fun lo1 H locs hW hS h1 hmo _ => ?_)
    rw [← h1 _ v_z] at hl
    refine lv_istore (lv' := [(5, .int (0 : Int32)), (4, .int iv), (3, .ref qo), (2, .ref (q 0)), (1, .ref (lo1 (10, 0, 0))), (0, .ref b)]) hx hb dL_law_1646 hl (by decide) rfl (fun ls hl => ?_)
    refine lv_aload_n hx hb dL_law_1648 rfl (lv_at hl 3 rfl) ?_
    refine lv_aload_n hx hb dL_law_1649 rfl (lv_at hl 5 rfl) ?_
    refine lv_iload hx hb dL_law_1650 (lv_at hl 1 rfl) ?_
    refine lv_iconst (v := (1)) hx hb dL_law_1652 (by decide) ?_
    refine lv_iadd hx hb dL_law_1653 ?_
    refine va_sld hx hb hX hbl hbA hS (hin 1 (by decide) (by decide)) dL_law_1654 ?_
    refine z_callV (As := [.int (xs (iv + 1).toNatClampNeg)]) (rest := []) ⟨hx, hb, hml, hown, hts⟩ (tX10_missing l Γ lo1 S q M [zOut Γ qo (vp_updL O 0 (y).toInt64)] h10) (cwV 1 hts gL_law_X10_missing rfl rfl rfl (by decide +kernel) ⟨Nat.le_of_ble_eq_true rfl, Nat.le_of_ble_eq_true rfl⟩) (wd_x hW (k := 0) rfl) rfl hKK hW hS rfl hl.1 rfl (Nat.le_of_ble_eq_true rfl) dL_law_1655 ⟨(by show cells + 1 + 0 ≤ 601024; omega), (by show slots + 6 + 0 ≤ 7293034; omega)⟩ (fun H locs hW hS _ _ => ?_)
    refine lv_istore (lv' := [(6, .int r), (5, .int (0 : Int32)), (4, .int iv), (3, .ref qo), (2, .ref (q 0)), (1, .ref (lo1 (10, 0, 0))), (0, .ref b)]) hx hb dL_law_1658 hl (by decide) rfl (fun ls hl => ?_)
    refine lv_aload_n hx hb dL_law_1660 rfl (lv_at hl 4 rfl) ?_
    refine z_callV (As := []) (rest := []) ⟨hx, hb, hml, hown, hts⟩ (tX10_thrown l Γ lo1 S q M1 [zOut Γ qo (vp_updL O 0 (y).toInt64)] (show fX10_thrown M1 = some (M1 0 0) from rfl)) (cwV 0 hts gL_law_X10_thrown rfl rfl rfl (by decide +kernel) ⟨Nat.le_of_ble_eq_true rfl, Nat.le_of_ble_eq_true rfl⟩) (wd_x hW (k := 0) rfl) rfl hKK hW hS rfl hl.1 rfl (Nat.le_of_ble_eq_true rfl) dL_law_1661 ⟨(by show cells + 1 + 0 + 0 ≤ 601024; omega), (by show slots + 6 + 0 + 0 ≤ 7293034; omega)⟩ (fun H locs hW hS _ _ => ?_)
    refine lv_iload hx hb dL_law_1664 (lv_at hl 1 rfl) ?_
    refine lv_icmp_eq (tgt := 1671) hx hb dL_law_1666 (by decide) (fun _ => ?_) (fun k => absurd hth k)
    refine lv_iload hx hb dL_law_1671 (lv_at hl 1 rfl) ?_
    refine lv_if_ne (tgt := 1688) hx hb dL_law_1673 (by decide) (fun k => absurd rfl k) (fun _ => ?_)
    refine lv_aload_n hx hb dL_law_1676 rfl (lv_at hl 3 rfl) ?_
    refine lv_iconst (v := (0)) hx hb dL_law_1677 (by decide) ?_
    refine va_lald hx hb hKK.1 (wd_x hW (k := 47) rfl) 0 1 (n := 1) rfl rfl (by unfold vp_in; decide) dL_law_1678 ?_
    rw [show vp_updL O 0 (y).toInt64 (0 : Int32).toNatClampNeg = (y).toInt64 from rfl, hfv]
    refine lv_iload hx hb dL_law_1679 (lv_at hl 0 rfl) ?_
    refine lv_i2l hx hb dL_law_1681 rfl ?_
    refine W.lcmp hx hb dL_law_1682 ?_
    rw [lg_same]
    refine lv_if_eq (tgt := 1688) hx hb dL_law_1683 (by decide) (fun _ => ?_) (fun k => absurd rfl k)
    refine lv_goto (tgt := 2131) hx hb dL_law_1688 (by decide) ?_
    refine W.widen (k := cells + 12) (n := slots + 2700) (by omega) (by omega) ?_
    exact kk lo1 S M1 (vp_updL O 0 (y).toInt64) H locs ls hT1 hW hS (lv_sub hl [2, 3, 4, 5, 6] rfl)
  · skip
    refine w_call (As := [.ref (lo (10, 0, 0)), .int (xs (iv + 1).toNatClampNeg), .ref qo]) (rest := []) ⟨hx, hb, hml, hown, hts⟩ (uL_missing l hl0 Γ lo S (mcl Γ q M) qo O v_z h9 (by simpa using hn)) (vx_cwSW 3 hts gL_law_L_missing rfl rfl rfl (by decide +kernel) ⟨Nat.le_of_ble_eq_true rfl, Nat.le_of_ble_eq_true rfl⟩) hKK hKX hKY hKN hW hS rfl hl.1 rfl (Nat.le_of_ble_eq_true rfl) dL_law_1643 ⟨(by show cells + 1 ≤ 601024; omega), (by show slots + 6 ≤ 7293034; omega)⟩ (fun lo1 H locs hW hS h1 hmo _ => ?_)
    rw [← h1 _ v_z] at hl
    refine lv_istore (lv' := [(5, .int (kL [1] ee.1)), (4, .int iv), (3, .ref qo), (2, .ref (q 0)), (1, .ref (lo1 (10, 0, 0))), (0, .ref b)]) hx hb dL_law_1646 hl (by decide) rfl (fun ls hl => ?_)
    refine lv_aload_n hx hb dL_law_1648 rfl (lv_at hl 3 rfl) ?_
    refine lv_aload_n hx hb dL_law_1649 rfl (lv_at hl 5 rfl) ?_
    refine lv_iload hx hb dL_law_1650 (lv_at hl 1 rfl) ?_
    refine lv_iconst (v := (1)) hx hb dL_law_1652 (by decide) ?_
    refine lv_iadd hx hb dL_law_1653 ?_
    refine va_sld hx hb hX hbl hbA hS (hin 1 (by decide) (by decide)) dL_law_1654 ?_
    refine z_callV (As := [.int (xs (iv + 1).toNatClampNeg)]) (rest := []) ⟨hx, hb, hml, hown, hts⟩ (tX10_missing l Γ lo1 ee.2 q M [zOut Γ qo O] h10) (cwV 1 hts gL_law_X10_missing rfl rfl rfl (by decide +kernel) ⟨Nat.le_of_ble_eq_true rfl, Nat.le_of_ble_eq_true rfl⟩) (wd_x hW (k := 0) rfl) rfl hKK hW hS rfl hl.1 rfl (Nat.le_of_ble_eq_true rfl) dL_law_1655 ⟨(by show cells + 1 + 0 ≤ 601024; omega), (by show slots + 6 + 0 ≤ 7293034; omega)⟩ (fun H locs hW hS _ _ => ?_)
    refine lv_istore (lv' := [(6, .int r), (5, .int (kL [1] ee.1)), (4, .int iv), (3, .ref qo), (2, .ref (q 0)), (1, .ref (lo1 (10, 0, 0))), (0, .ref b)]) hx hb dL_law_1658 hl (by decide) rfl (fun ls hl => ?_)
    refine lv_aload_n hx hb dL_law_1660 rfl (lv_at hl 4 rfl) ?_
    refine z_callV (As := []) (rest := []) ⟨hx, hb, hml, hown, hts⟩ (tX10_thrown l Γ lo1 ee.2 q M1 [zOut Γ qo O] (show fX10_thrown M1 = some (M1 0 0) from rfl)) (cwV 0 hts gL_law_X10_thrown rfl rfl rfl (by decide +kernel) ⟨Nat.le_of_ble_eq_true rfl, Nat.le_of_ble_eq_true rfl⟩) (wd_x hW (k := 0) rfl) rfl hKK hW hS rfl hl.1 rfl (Nat.le_of_ble_eq_true rfl) dL_law_1661 ⟨(by show cells + 1 + 0 + 0 ≤ 601024; omega), (by show slots + 6 + 0 + 0 ≤ 7293034; omega)⟩ (fun H locs hW hS _ _ => ?_)
    refine lv_iload hx hb dL_law_1664 (lv_at hl 1 rfl) ?_
    refine lv_icmp_eq (tgt := 1671) hx hb dL_law_1666 (by decide) (fun _ => ?_) (fun k => absurd hth k)
    refine lv_iload hx hb dL_law_1671 (lv_at hl 1 rfl) ?_
    refine lv_if_ne (tgt := 1688) hx hb dL_law_1673 (by decide) (fun _ => ?_) (fun k => absurd k (kL_ne _ _ hn (Nat.le_of_ble_eq_true rfl)))
    refine lv_goto (tgt := 2131) hx hb dL_law_1688 (by decide) ?_
    refine W.widen (k := cells + 12) (n := slots + 2700) (by omega) (by omega) ?_
    exact kk lo1 ee.2 M1 O H locs ls hT1 hW hS (lv_sub hl [2, 3, 4, 5, 6] rfl)

set_option maxHeartbeats 4000000 in
set_option maxRecDepth 100000 in
theorem lw_c24 {p : Program} {e : Env} {s : State} {m : MethodId} {below : List Frame} {meth : Method} {c : Code} {Q : State → Prop} (l : Launch) (hl0 : l.stackTraces = false) {Γ : zG} {T : zSt → zMs → Prop} (hT : zSteps T) {b L : Nat} {xs : Nat → Int32} (C0 : lwC p s m meth c Γ b L xs) {lo : zId → Nat} {S : zSt} {q : Nat → Nat} {M : zMs} {qo : Nat} {O : Nat → Int64} {iv : Int32} {cells slots : Nat} {H : Heap} {locs : List Loc} {ls : Array Slot} (hTT : T S M) (hW : Wd Γ lo S (mcl Γ q M ++ [zOut Γ qo O]) H) (hS : va_S (zA Γ) s.heap H locs) (hl : lv_has ls 8 (lwLv lo (q 0) qo b iv)) (hin : ∀ k : Int32, 0 ≤ k → k ≤ 5 → vp_in (iv + k) L) (hc : cells + 12 ≤ 601024) (hs : slots + 2700 ≤ 7293034) (kk : ∀ (lo1 : zId → Nat) (S1 : zSt) (M1 : zMs) (O1 : Nat → Int64) (H1 : Heap) (locs1 : List Loc) (ls1 : Array Slot), T S1 M1 → Wd Γ lo1 S1 (mcl Γ q M1 ++ [zOut Γ qo O1]) H1 → va_S (zA Γ) s.heap H1 locs1 → lv_has ls1 8 (lwLv lo1 (q 0) qo b iv) → W p l e room_1 s m #[Value.ref b] below meth c H1 locs1 (cells + 12) (slots + 2700) Q (F0 m 2131 ls1 [])) : W p l e room_1 s m #[Value.ref b] below meth c H locs cells slots Q (F0 m 1691 ls []) := by
  obtain ⟨hx, hb, hml, hown, hts, hX, hbl, hbA, hB0, hKK, hKX, hKY, hKN⟩ := C0
  have v_z : zV S (10, 0, 0) = true := hT.1 _ _ hTT
  have hl : lv_has ls 8 [(4, .int iv), (3, .ref qo), (2, .ref (q 0)), (1, .ref (lo (10, 0, 0))), (0, .ref b)] := hl
  refine lv_aload_n hx hb dL_law_1691 rfl (lv_at hl 3 rfl) ?_
  refine lv_aload_n hx hb dL_law_1692 rfl (lv_at hl 4 rfl) ?_
  refine lv_iload hx hb dL_law_1693 (lv_at hl 0 rfl) ?_
  refine lv_iconst (v := (1)) hx hb dL_law_1695 (by decide) ?_
  refine lv_iadd hx hb dL_law_1696 ?_
  refine va_sld hx hb hX hbl hbA hS (hin 1 (by decide) (by decide)) dL_law_1697 ?_
  refine lv_aload_n hx hb dL_law_1698 rfl (lv_at hl 4 rfl) ?_
  refine lv_iload hx hb dL_law_1699 (lv_at hl 0 rfl) ?_
  refine lv_iconst (v := (2)) hx hb dL_law_1701 (by decide) ?_
  refine lv_iadd hx hb dL_law_1702 ?_
  refine va_sld hx hb hX hbl hbA hS (hin 2 (by decide) (by decide)) dL_law_1703 ?_
  refine lv_aload_n hx hb dL_law_1704 rfl (lv_at hl 4 rfl) ?_
  refine lv_iload hx hb dL_law_1705 (lv_at hl 0 rfl) ?_
  refine lv_iconst (v := (3)) hx hb dL_law_1707 (by decide) ?_
  refine lv_iadd hx hb dL_law_1708 ?_
  refine va_sld hx hb hX hbl hbA hS (hin 3 (by decide) (by decide)) dL_law_1709 ?_
  refine lv_aload_n hx hb dL_law_1710 rfl (lv_at hl 1 rfl) ?_
  rcases st_load hT S M (xs (iv + 1).toNatClampNeg) (xs (iv + 2).toNatClampNeg) (xs (iv + 3).toNatClampNeg) hTT with ⟨y, r, M1, h9, h10, hth, hfv, hT1⟩ | ⟨ee, r, M1, h9, h10, hn, hth, hT1⟩
  · dsimp only at hfv hT1
    refine w_call (As := [.ref (lo (10, 0, 0)), .int (xs (iv + 1).toNatClampNeg), .int (xs (iv + 2).toNatClampNeg), .int (xs (iv + 3).toNatClampNeg), .ref qo]) (rest := []) ⟨hx, hb, hml, hown, hts⟩ (tL_load l Γ lo S (mcl Γ q M) qo O v_z h9) (vx_cwSW 5 hts gL_law_L_load rfl rfl rfl (by decide +kernel) ⟨Nat.le_of_ble_eq_true rfl, Nat.le_of_ble_eq_true rfl⟩) hKK hKX hKY hKN hW hS rfl hl.1 rfl (Nat.le_of_ble_eq_true rfl) dL_law_1711 ⟨(by show cells + 1 ≤ 601024; omega), (by show slots + 6 ≤ 7293034; omega)⟩ (fun lo1 H locs hW hS h1 hmo _ => ?_)
    rw [← h1 _ v_z] at hl
    refine lv_istore (lv' := [(5, .int (0 : Int32)), (4, .int iv), (3, .ref qo), (2, .ref (q 0)), (1, .ref (lo1 (10, 0, 0))), (0, .ref b)]) hx hb dL_law_1714 hl (by decide) rfl (fun ls hl => ?_)
    refine lv_aload_n hx hb dL_law_1716 rfl (lv_at hl 3 rfl) ?_
    refine lv_aload_n hx hb dL_law_1717 rfl (lv_at hl 5 rfl) ?_
    refine lv_iload hx hb dL_law_1718 (lv_at hl 1 rfl) ?_
    refine lv_iconst (v := (1)) hx hb dL_law_1720 (by decide) ?_
    refine lv_iadd hx hb dL_law_1721 ?_
    refine va_sld hx hb hX hbl hbA hS (hin 1 (by decide) (by decide)) dL_law_1722 ?_
    refine lv_aload_n hx hb dL_law_1723 rfl (lv_at hl 5 rfl) ?_
    refine lv_iload hx hb dL_law_1724 (lv_at hl 1 rfl) ?_
    refine lv_iconst (v := (2)) hx hb dL_law_1726 (by decide) ?_
    refine lv_iadd hx hb dL_law_1727 ?_
    refine va_sld hx hb hX hbl hbA hS (hin 2 (by decide) (by decide)) dL_law_1728 ?_
    refine lv_aload_n hx hb dL_law_1729 rfl (lv_at hl 5 rfl) ?_
    refine lv_iload hx hb dL_law_1730 (lv_at hl 1 rfl) ?_
    refine lv_iconst (v := (3)) hx hb dL_law_1732 (by decide) ?_
    refine lv_iadd hx hb dL_law_1733 ?_
    refine va_sld hx hb hX hbl hbA hS (hin 3 (by decide) (by decide)) dL_law_1734 ?_
    refine z_callV (As := [.int (xs (iv + 1).toNatClampNeg), .int (xs (iv + 2).toNatClampNeg), .int (xs (iv + 3).toNatClampNeg)]) (rest := []) ⟨hx, hb, hml, hown, hts⟩ (tX10_load_ l Γ lo1 y.2 q M [zOut Γ qo (vp_updL O 0 (y.1).toInt64)] h10) (cwV 3 hts gL_law_X10_load_ rfl rfl rfl (by decide +kernel) ⟨Nat.le_of_ble_eq_true rfl, Nat.le_of_ble_eq_true rfl⟩) (wd_x hW (k := 0) rfl) rfl hKK hW hS rfl hl.1 rfl (Nat.le_of_ble_eq_true rfl) dL_law_1735 ⟨(by show cells + 1 + 0 ≤ 601024; omega), (by show slots + 6 + 0 ≤ 7293034; omega)⟩ (fun H locs hW hS _ _ => ?_)
    refine lv_istore (lv' := [(6, .int r), (5, .int (0 : Int32)), (4, .int iv), (3, .ref qo), (2, .ref (q 0)), (1, .ref (lo1 (10, 0, 0))), (0, .ref b)]) hx hb dL_law_1738 hl (by decide) rfl (fun ls hl => ?_)
    refine lv_aload_n hx hb dL_law_1740 rfl (lv_at hl 4 rfl) ?_
    refine z_callV (As := []) (rest := []) ⟨hx, hb, hml, hown, hts⟩ (tX10_thrown l Γ lo1 y.2 q M1 [zOut Γ qo (vp_updL O 0 (y.1).toInt64)] (show fX10_thrown M1 = some (M1 0 0) from rfl)) (cwV 0 hts gL_law_X10_thrown rfl rfl rfl (by decide +kernel) ⟨Nat.le_of_ble_eq_true rfl, Nat.le_of_ble_eq_true rfl⟩) (wd_x hW (k := 0) rfl) rfl hKK hW hS rfl hl.1 rfl (Nat.le_of_ble_eq_true rfl) dL_law_1741 ⟨(by show cells + 1 + 0 + 0 ≤ 601024; omega), (by show slots + 6 + 0 + 0 ≤ 7293034; omega)⟩ (fun H locs hW hS _ _ => ?_)
    refine lv_iload hx hb dL_law_1744 (lv_at hl 1 rfl) ?_
    refine lv_icmp_eq (tgt := 1751) hx hb dL_law_1746 (by decide) (fun _ => ?_) (fun k => absurd hth k)
    refine lv_iload hx hb dL_law_1751 (lv_at hl 1 rfl) ?_
    refine lv_if_ne (tgt := 1768) hx hb dL_law_1753 (by decide) (fun k => absurd rfl k) (fun _ => ?_)
    refine lv_aload_n hx hb dL_law_1756 rfl (lv_at hl 3 rfl) ?_
    refine lv_iconst (v := (0)) hx hb dL_law_1757 (by decide) ?_
    refine va_lald hx hb hKK.1 (wd_x hW (k := 47) rfl) 0 1 (n := 1) rfl rfl (by unfold vp_in; decide) dL_law_1758 ?_
    rw [show vp_updL O 0 (y.1).toInt64 (0 : Int32).toNatClampNeg = (y.1).toInt64 from rfl, hfv]
    refine lv_iload hx hb dL_law_1759 (lv_at hl 0 rfl) ?_
    refine lv_i2l hx hb dL_law_1761 rfl ?_
    refine W.lcmp hx hb dL_law_1762 ?_
    rw [lg_same]
    refine lv_if_eq (tgt := 1768) hx hb dL_law_1763 (by decide) (fun _ => ?_) (fun k => absurd rfl k)
    refine lv_goto (tgt := 2131) hx hb dL_law_1768 (by decide) ?_
    refine W.widen (k := cells + 12) (n := slots + 2700) (by omega) (by omega) ?_
    exact kk lo1 y.2 M1 (vp_updL O 0 (y.1).toInt64) H locs ls hT1 hW hS (lv_sub hl [2, 3, 4, 5, 6] rfl)
  · skip
    refine w_call (As := [.ref (lo (10, 0, 0)), .int (xs (iv + 1).toNatClampNeg), .int (xs (iv + 2).toNatClampNeg), .int (xs (iv + 3).toNatClampNeg), .ref qo]) (rest := []) ⟨hx, hb, hml, hown, hts⟩ (uL_load l hl0 Γ lo S (mcl Γ q M) qo O v_z h9 (by simpa using hn)) (vx_cwSW 5 hts gL_law_L_load rfl rfl rfl (by decide +kernel) ⟨Nat.le_of_ble_eq_true rfl, Nat.le_of_ble_eq_true rfl⟩) hKK hKX hKY hKN hW hS rfl hl.1 rfl (Nat.le_of_ble_eq_true rfl) dL_law_1711 ⟨(by show cells + 1 ≤ 601024; omega), (by show slots + 6 ≤ 7293034; omega)⟩ (fun lo1 H locs hW hS h1 hmo _ => ?_)
    rw [← h1 _ v_z] at hl
    refine lv_istore (lv' := [(5, .int (kL [1, 2, 3] ee.1)), (4, .int iv), (3, .ref qo), (2, .ref (q 0)), (1, .ref (lo1 (10, 0, 0))), (0, .ref b)]) hx hb dL_law_1714 hl (by decide) rfl (fun ls hl => ?_)
    refine lv_aload_n hx hb dL_law_1716 rfl (lv_at hl 3 rfl) ?_
    refine lv_aload_n hx hb dL_law_1717 rfl (lv_at hl 5 rfl) ?_
    refine lv_iload hx hb dL_law_1718 (lv_at hl 1 rfl) ?_
    refine lv_iconst (v := (1)) hx hb dL_law_1720 (by decide) ?_
    refine lv_iadd hx hb dL_law_1721 ?_
    refine va_sld hx hb hX hbl hbA hS (hin 1 (by decide) (by decide)) dL_law_1722 ?_
    refine lv_aload_n hx hb dL_law_1723 rfl (lv_at hl 5 rfl) ?_
    refine lv_iload hx hb dL_law_1724 (lv_at hl 1 rfl) ?_
    refine lv_iconst (v := (2)) hx hb dL_law_1726 (by decide) ?_
    refine lv_iadd hx hb dL_law_1727 ?_
    refine va_sld hx hb hX hbl hbA hS (hin 2 (by decide) (by decide)) dL_law_1728 ?_
    refine lv_aload_n hx hb dL_law_1729 rfl (lv_at hl 5 rfl) ?_
    refine lv_iload hx hb dL_law_1730 (lv_at hl 1 rfl) ?_
    refine lv_iconst (v := (3)) hx hb dL_law_1732 (by decide) ?_
    refine lv_iadd hx hb dL_law_1733 ?_
    refine va_sld hx hb hX hbl hbA hS (hin 3 (by decide) (by decide)) dL_law_1734 ?_
    refine z_callV (As := [.int (xs (iv + 1).toNatClampNeg), .int (xs (iv + 2).toNatClampNeg), .int (xs (iv + 3).toNatClampNeg)]) (rest := []) ⟨hx, hb, hml, hown, hts⟩ (tX10_load_ l Γ lo1 ee.2 q M [zOut Γ qo O] h10) (cwV 3 hts gL_law_X10_load_ rfl rfl rfl (by decide +kernel) ⟨Nat.le_of_ble_eq_true rfl, Nat.le_of_ble_eq_true rfl⟩) (wd_x hW (k := 0) rfl) rfl hKK hW hS rfl hl.1 rfl (Nat.le_of_ble_eq_true rfl) dL_law_1735 ⟨(by show cells + 1 + 0 ≤ 601024; omega), (by show slots + 6 + 0 ≤ 7293034; omega)⟩ (fun H locs hW hS _ _ => ?_)
    refine lv_istore (lv' := [(6, .int r), (5, .int (kL [1, 2, 3] ee.1)), (4, .int iv), (3, .ref qo), (2, .ref (q 0)), (1, .ref (lo1 (10, 0, 0))), (0, .ref b)]) hx hb dL_law_1738 hl (by decide) rfl (fun ls hl => ?_)
    refine lv_aload_n hx hb dL_law_1740 rfl (lv_at hl 4 rfl) ?_
    refine z_callV (As := []) (rest := []) ⟨hx, hb, hml, hown, hts⟩ (tX10_thrown l Γ lo1 ee.2 q M1 [zOut Γ qo O] (show fX10_thrown M1 = some (M1 0 0) from rfl)) (cwV 0 hts gL_law_X10_thrown rfl rfl rfl (by decide +kernel) ⟨Nat.le_of_ble_eq_true rfl, Nat.le_of_ble_eq_true rfl⟩) (wd_x hW (k := 0) rfl) rfl hKK hW hS rfl hl.1 rfl (Nat.le_of_ble_eq_true rfl) dL_law_1741 ⟨(by show cells + 1 + 0 + 0 ≤ 601024; omega), (by show slots + 6 + 0 + 0 ≤ 7293034; omega)⟩ (fun H locs hW hS _ _ => ?_)
    refine lv_iload hx hb dL_law_1744 (lv_at hl 1 rfl) ?_
    refine lv_icmp_eq (tgt := 1751) hx hb dL_law_1746 (by decide) (fun _ => ?_) (fun k => absurd hth k)
    refine lv_iload hx hb dL_law_1751 (lv_at hl 1 rfl) ?_
    refine lv_if_ne (tgt := 1768) hx hb dL_law_1753 (by decide) (fun _ => ?_) (fun k => absurd k (kL_ne _ _ hn (Nat.le_of_ble_eq_true rfl)))
    refine lv_goto (tgt := 2131) hx hb dL_law_1768 (by decide) ?_
    refine W.widen (k := cells + 12) (n := slots + 2700) (by omega) (by omega) ?_
    exact kk lo1 ee.2 M1 O H locs ls hT1 hW hS (lv_sub hl [2, 3, 4, 5, 6] rfl)

set_option maxHeartbeats 4000000 in
set_option maxRecDepth 100000 in
theorem lw_c25 {p : Program} {e : Env} {s : State} {m : MethodId} {below : List Frame} {meth : Method} {c : Code} {Q : State → Prop} (l : Launch) (hl0 : l.stackTraces = false) {Γ : zG} {T : zSt → zMs → Prop} (hT : zSteps T) {b L : Nat} {xs : Nat → Int32} (C0 : lwC p s m meth c Γ b L xs) {lo : zId → Nat} {S : zSt} {q : Nat → Nat} {M : zMs} {qo : Nat} {O : Nat → Int64} {iv : Int32} {cells slots : Nat} {H : Heap} {locs : List Loc} {ls : Array Slot} (hTT : T S M) (hW : Wd Γ lo S (mcl Γ q M ++ [zOut Γ qo O]) H) (hS : va_S (zA Γ) s.heap H locs) (hl : lv_has ls 8 (lwLv lo (q 0) qo b iv)) (hin : ∀ k : Int32, 0 ≤ k → k ≤ 5 → vp_in (iv + k) L) (hc : cells + 12 ≤ 601024) (hs : slots + 2700 ≤ 7293034) (kk : ∀ (lo1 : zId → Nat) (S1 : zSt) (M1 : zMs) (O1 : Nat → Int64) (H1 : Heap) (locs1 : List Loc) (ls1 : Array Slot), T S1 M1 → Wd Γ lo1 S1 (mcl Γ q M1 ++ [zOut Γ qo O1]) H1 → va_S (zA Γ) s.heap H1 locs1 → lv_has ls1 8 (lwLv lo1 (q 0) qo b iv) → W p l e room_1 s m #[Value.ref b] below meth c H1 locs1 (cells + 12) (slots + 2700) Q (F0 m 2131 ls1 [])) : W p l e room_1 s m #[Value.ref b] below meth c H locs cells slots Q (F0 m 1771 ls []) := by
  obtain ⟨hx, hb, hml, hown, hts, hX, hbl, hbA, hB0, hKK, hKX, hKY, hKN⟩ := C0
  have v_z : zV S (10, 0, 0) = true := hT.1 _ _ hTT
  have hl : lv_has ls 8 [(4, .int iv), (3, .ref qo), (2, .ref (q 0)), (1, .ref (lo (10, 0, 0))), (0, .ref b)] := hl
  refine lv_aload_n hx hb dL_law_1771 rfl (lv_at hl 3 rfl) ?_
  refine lv_aload_n hx hb dL_law_1772 rfl (lv_at hl 4 rfl) ?_
  refine lv_iload hx hb dL_law_1773 (lv_at hl 0 rfl) ?_
  refine lv_iconst (v := (1)) hx hb dL_law_1775 (by decide) ?_
  refine lv_iadd hx hb dL_law_1776 ?_
  refine va_sld hx hb hX hbl hbA hS (hin 1 (by decide) (by decide)) dL_law_1777 ?_
  refine lv_aload_n hx hb dL_law_1778 rfl (lv_at hl 4 rfl) ?_
  refine lv_iload hx hb dL_law_1779 (lv_at hl 0 rfl) ?_
  refine lv_iconst (v := (2)) hx hb dL_law_1781 (by decide) ?_
  refine lv_iadd hx hb dL_law_1782 ?_
  refine va_sld hx hb hX hbl hbA hS (hin 2 (by decide) (by decide)) dL_law_1783 ?_
  refine lv_aload_n hx hb dL_law_1784 rfl (lv_at hl 1 rfl) ?_
  rcases st_parts hT S M (xs (iv + 1).toNatClampNeg) (xs (iv + 2).toNatClampNeg) hTT with ⟨y, r, M1, h9, h10, hth, hfv, hT1⟩ | ⟨ee, r, M1, h9, h10, hn, hth, hT1⟩
  · dsimp only at hfv hT1
    refine w_call (As := [.ref (lo (10, 0, 0)), .int (xs (iv + 1).toNatClampNeg), .int (xs (iv + 2).toNatClampNeg), .ref qo]) (rest := []) ⟨hx, hb, hml, hown, hts⟩ (tL_parts l Γ lo S (mcl Γ q M) qo O v_z h9) (vx_cwSW 4 hts gL_law_L_parts rfl rfl rfl (by decide +kernel) ⟨Nat.le_of_ble_eq_true rfl, Nat.le_of_ble_eq_true rfl⟩) hKK hKX hKY hKN hW hS rfl hl.1 rfl (Nat.le_of_ble_eq_true rfl) dL_law_1785 ⟨(by show cells + 1 ≤ 601024; omega), (by show slots + 6 ≤ 7293034; omega)⟩ (fun lo1 H locs hW hS h1 hmo _ => ?_)
    rw [← h1 _ v_z] at hl
    refine lv_istore (lv' := [(5, .int (0 : Int32)), (4, .int iv), (3, .ref qo), (2, .ref (q 0)), (1, .ref (lo1 (10, 0, 0))), (0, .ref b)]) hx hb dL_law_1788 hl (by decide) rfl (fun ls hl => ?_)
    refine lv_aload_n hx hb dL_law_1790 rfl (lv_at hl 3 rfl) ?_
    refine lv_aload_n hx hb dL_law_1791 rfl (lv_at hl 5 rfl) ?_
    refine lv_iload hx hb dL_law_1792 (lv_at hl 1 rfl) ?_
    refine lv_iconst (v := (1)) hx hb dL_law_1794 (by decide) ?_
    refine lv_iadd hx hb dL_law_1795 ?_
    refine va_sld hx hb hX hbl hbA hS (hin 1 (by decide) (by decide)) dL_law_1796 ?_
    refine lv_aload_n hx hb dL_law_1797 rfl (lv_at hl 5 rfl) ?_
    refine lv_iload hx hb dL_law_1798 (lv_at hl 1 rfl) ?_
    refine lv_iconst (v := (2)) hx hb dL_law_1800 (by decide) ?_
    refine lv_iadd hx hb dL_law_1801 ?_
    refine va_sld hx hb hX hbl hbA hS (hin 2 (by decide) (by decide)) dL_law_1802 ?_
    refine z_callV (As := [.int (xs (iv + 1).toNatClampNeg), .int (xs (iv + 2).toNatClampNeg)]) (rest := []) ⟨hx, hb, hml, hown, hts⟩ (tX10_parts l Γ lo1 S q M [zOut Γ qo (vp_updL O 0 (y).toInt64)] h10) (cwV 2 hts gL_law_X10_parts rfl rfl rfl (by decide +kernel) ⟨Nat.le_of_ble_eq_true rfl, Nat.le_of_ble_eq_true rfl⟩) (wd_x hW (k := 0) rfl) rfl hKK hW hS rfl hl.1 rfl (Nat.le_of_ble_eq_true rfl) dL_law_1803 ⟨(by show cells + 1 + 0 ≤ 601024; omega), (by show slots + 6 + 0 ≤ 7293034; omega)⟩ (fun H locs hW hS _ _ => ?_)
    refine lv_istore (lv' := [(6, .int r), (5, .int (0 : Int32)), (4, .int iv), (3, .ref qo), (2, .ref (q 0)), (1, .ref (lo1 (10, 0, 0))), (0, .ref b)]) hx hb dL_law_1806 hl (by decide) rfl (fun ls hl => ?_)
    refine lv_aload_n hx hb dL_law_1808 rfl (lv_at hl 4 rfl) ?_
    refine z_callV (As := []) (rest := []) ⟨hx, hb, hml, hown, hts⟩ (tX10_thrown l Γ lo1 S q M1 [zOut Γ qo (vp_updL O 0 (y).toInt64)] (show fX10_thrown M1 = some (M1 0 0) from rfl)) (cwV 0 hts gL_law_X10_thrown rfl rfl rfl (by decide +kernel) ⟨Nat.le_of_ble_eq_true rfl, Nat.le_of_ble_eq_true rfl⟩) (wd_x hW (k := 0) rfl) rfl hKK hW hS rfl hl.1 rfl (Nat.le_of_ble_eq_true rfl) dL_law_1809 ⟨(by show cells + 1 + 0 + 0 ≤ 601024; omega), (by show slots + 6 + 0 + 0 ≤ 7293034; omega)⟩ (fun H locs hW hS _ _ => ?_)
    refine lv_iload hx hb dL_law_1812 (lv_at hl 1 rfl) ?_
    refine lv_icmp_eq (tgt := 1819) hx hb dL_law_1814 (by decide) (fun _ => ?_) (fun k => absurd hth k)
    refine lv_iload hx hb dL_law_1819 (lv_at hl 1 rfl) ?_
    refine lv_if_ne (tgt := 1836) hx hb dL_law_1821 (by decide) (fun k => absurd rfl k) (fun _ => ?_)
    refine lv_aload_n hx hb dL_law_1824 rfl (lv_at hl 3 rfl) ?_
    refine lv_iconst (v := (0)) hx hb dL_law_1825 (by decide) ?_
    refine va_lald hx hb hKK.1 (wd_x hW (k := 47) rfl) 0 1 (n := 1) rfl rfl (by unfold vp_in; decide) dL_law_1826 ?_
    rw [show vp_updL O 0 (y).toInt64 (0 : Int32).toNatClampNeg = (y).toInt64 from rfl, hfv]
    refine lv_iload hx hb dL_law_1827 (lv_at hl 0 rfl) ?_
    refine lv_i2l hx hb dL_law_1829 rfl ?_
    refine W.lcmp hx hb dL_law_1830 ?_
    rw [lg_same]
    refine lv_if_eq (tgt := 1836) hx hb dL_law_1831 (by decide) (fun _ => ?_) (fun k => absurd rfl k)
    refine lv_goto (tgt := 2131) hx hb dL_law_1836 (by decide) ?_
    refine W.widen (k := cells + 12) (n := slots + 2700) (by omega) (by omega) ?_
    exact kk lo1 S M1 (vp_updL O 0 (y).toInt64) H locs ls hT1 hW hS (lv_sub hl [2, 3, 4, 5, 6] rfl)
  · skip
    refine w_call (As := [.ref (lo (10, 0, 0)), .int (xs (iv + 1).toNatClampNeg), .int (xs (iv + 2).toNatClampNeg), .ref qo]) (rest := []) ⟨hx, hb, hml, hown, hts⟩ (uL_parts l hl0 Γ lo S (mcl Γ q M) qo O v_z h9 (by simpa using hn)) (vx_cwSW 4 hts gL_law_L_parts rfl rfl rfl (by decide +kernel) ⟨Nat.le_of_ble_eq_true rfl, Nat.le_of_ble_eq_true rfl⟩) hKK hKX hKY hKN hW hS rfl hl.1 rfl (Nat.le_of_ble_eq_true rfl) dL_law_1785 ⟨(by show cells + 1 ≤ 601024; omega), (by show slots + 6 ≤ 7293034; omega)⟩ (fun lo1 H locs hW hS h1 hmo _ => ?_)
    rw [← h1 _ v_z] at hl
    refine lv_istore (lv' := [(5, .int (kL [1, 2] ee.1)), (4, .int iv), (3, .ref qo), (2, .ref (q 0)), (1, .ref (lo1 (10, 0, 0))), (0, .ref b)]) hx hb dL_law_1788 hl (by decide) rfl (fun ls hl => ?_)
    refine lv_aload_n hx hb dL_law_1790 rfl (lv_at hl 3 rfl) ?_
    refine lv_aload_n hx hb dL_law_1791 rfl (lv_at hl 5 rfl) ?_
    refine lv_iload hx hb dL_law_1792 (lv_at hl 1 rfl) ?_
    refine lv_iconst (v := (1)) hx hb dL_law_1794 (by decide) ?_
    refine lv_iadd hx hb dL_law_1795 ?_
    refine va_sld hx hb hX hbl hbA hS (hin 1 (by decide) (by decide)) dL_law_1796 ?_
    refine lv_aload_n hx hb dL_law_1797 rfl (lv_at hl 5 rfl) ?_
    refine lv_iload hx hb dL_law_1798 (lv_at hl 1 rfl) ?_
    refine lv_iconst (v := (2)) hx hb dL_law_1800 (by decide) ?_
    refine lv_iadd hx hb dL_law_1801 ?_
    refine va_sld hx hb hX hbl hbA hS (hin 2 (by decide) (by decide)) dL_law_1802 ?_
    refine z_callV (As := [.int (xs (iv + 1).toNatClampNeg), .int (xs (iv + 2).toNatClampNeg)]) (rest := []) ⟨hx, hb, hml, hown, hts⟩ (tX10_parts l Γ lo1 ee.2 q M [zOut Γ qo O] h10) (cwV 2 hts gL_law_X10_parts rfl rfl rfl (by decide +kernel) ⟨Nat.le_of_ble_eq_true rfl, Nat.le_of_ble_eq_true rfl⟩) (wd_x hW (k := 0) rfl) rfl hKK hW hS rfl hl.1 rfl (Nat.le_of_ble_eq_true rfl) dL_law_1803 ⟨(by show cells + 1 + 0 ≤ 601024; omega), (by show slots + 6 + 0 ≤ 7293034; omega)⟩ (fun H locs hW hS _ _ => ?_)
    refine lv_istore (lv' := [(6, .int r), (5, .int (kL [1, 2] ee.1)), (4, .int iv), (3, .ref qo), (2, .ref (q 0)), (1, .ref (lo1 (10, 0, 0))), (0, .ref b)]) hx hb dL_law_1806 hl (by decide) rfl (fun ls hl => ?_)
    refine lv_aload_n hx hb dL_law_1808 rfl (lv_at hl 4 rfl) ?_
    refine z_callV (As := []) (rest := []) ⟨hx, hb, hml, hown, hts⟩ (tX10_thrown l Γ lo1 ee.2 q M1 [zOut Γ qo O] (show fX10_thrown M1 = some (M1 0 0) from rfl)) (cwV 0 hts gL_law_X10_thrown rfl rfl rfl (by decide +kernel) ⟨Nat.le_of_ble_eq_true rfl, Nat.le_of_ble_eq_true rfl⟩) (wd_x hW (k := 0) rfl) rfl hKK hW hS rfl hl.1 rfl (Nat.le_of_ble_eq_true rfl) dL_law_1809 ⟨(by show cells + 1 + 0 + 0 ≤ 601024; omega), (by show slots + 6 + 0 + 0 ≤ 7293034; omega)⟩ (fun H locs hW hS _ _ => ?_)
    refine lv_iload hx hb dL_law_1812 (lv_at hl 1 rfl) ?_
    refine lv_icmp_eq (tgt := 1819) hx hb dL_law_1814 (by decide) (fun _ => ?_) (fun k => absurd hth k)
    refine lv_iload hx hb dL_law_1819 (lv_at hl 1 rfl) ?_
    refine lv_if_ne (tgt := 1836) hx hb dL_law_1821 (by decide) (fun _ => ?_) (fun k => absurd k (kL_ne _ _ hn (Nat.le_of_ble_eq_true rfl)))
    refine lv_goto (tgt := 2131) hx hb dL_law_1836 (by decide) ?_
    refine W.widen (k := cells + 12) (n := slots + 2700) (by omega) (by omega) ?_
    exact kk lo1 ee.2 M1 O H locs ls hT1 hW hS (lv_sub hl [2, 3, 4, 5, 6] rfl)

set_option maxHeartbeats 4000000 in
set_option maxRecDepth 100000 in
theorem lw_c26 {p : Program} {e : Env} {s : State} {m : MethodId} {below : List Frame} {meth : Method} {c : Code} {Q : State → Prop} (l : Launch) (hl0 : l.stackTraces = false) {Γ : zG} {T : zSt → zMs → Prop} (hT : zSteps T) {b L : Nat} {xs : Nat → Int32} (C0 : lwC p s m meth c Γ b L xs) {lo : zId → Nat} {S : zSt} {q : Nat → Nat} {M : zMs} {qo : Nat} {O : Nat → Int64} {iv : Int32} {cells slots : Nat} {H : Heap} {locs : List Loc} {ls : Array Slot} (hTT : T S M) (hW : Wd Γ lo S (mcl Γ q M ++ [zOut Γ qo O]) H) (hS : va_S (zA Γ) s.heap H locs) (hl : lv_has ls 8 (lwLv lo (q 0) qo b iv)) (hin : ∀ k : Int32, 0 ≤ k → k ≤ 5 → vp_in (iv + k) L) (hc : cells + 12 ≤ 601024) (hs : slots + 2700 ≤ 7293034) (kk : ∀ (lo1 : zId → Nat) (S1 : zSt) (M1 : zMs) (O1 : Nat → Int64) (H1 : Heap) (locs1 : List Loc) (ls1 : Array Slot), T S1 M1 → Wd Γ lo1 S1 (mcl Γ q M1 ++ [zOut Γ qo O1]) H1 → va_S (zA Γ) s.heap H1 locs1 → lv_has ls1 8 (lwLv lo1 (q 0) qo b iv) → W p l e room_1 s m #[Value.ref b] below meth c H1 locs1 (cells + 12) (slots + 2700) Q (F0 m 2131 ls1 [])) : W p l e room_1 s m #[Value.ref b] below meth c H locs cells slots Q (F0 m 1839 ls []) := by
  obtain ⟨hx, hb, hml, hown, hts, hX, hbl, hbA, hB0, hKK, hKX, hKY, hKN⟩ := C0
  have v_z : zV S (10, 0, 0) = true := hT.1 _ _ hTT
  have hl : lv_has ls 8 [(4, .int iv), (3, .ref qo), (2, .ref (q 0)), (1, .ref (lo (10, 0, 0))), (0, .ref b)] := hl
  refine lv_aload_n hx hb dL_law_1839 rfl (lv_at hl 3 rfl) ?_
  refine lv_aload_n hx hb dL_law_1840 rfl (lv_at hl 4 rfl) ?_
  refine lv_iload hx hb dL_law_1841 (lv_at hl 0 rfl) ?_
  refine lv_iconst (v := (1)) hx hb dL_law_1843 (by decide) ?_
  refine lv_iadd hx hb dL_law_1844 ?_
  refine va_sld hx hb hX hbl hbA hS (hin 1 (by decide) (by decide)) dL_law_1845 ?_
  refine lv_aload_n hx hb dL_law_1846 rfl (lv_at hl 1 rfl) ?_
  rcases st_wanted hT S M (xs (iv + 1).toNatClampNeg) hTT with ⟨y, r, M1, h9, h10, hth, hfv, hT1⟩ | ⟨ee, r, M1, h9, h10, hn, hth, hT1⟩
  · dsimp only at hfv hT1
    refine w_call (As := [.ref (lo (10, 0, 0)), .int (xs (iv + 1).toNatClampNeg), .ref qo]) (rest := []) ⟨hx, hb, hml, hown, hts⟩ (tL_wanted l Γ lo S (mcl Γ q M) qo O v_z h9) (vx_cwSW 3 hts gL_law_L_wanted rfl rfl rfl (by decide +kernel) ⟨Nat.le_of_ble_eq_true rfl, Nat.le_of_ble_eq_true rfl⟩) hKK hKX hKY hKN hW hS rfl hl.1 rfl (Nat.le_of_ble_eq_true rfl) dL_law_1847 ⟨(by show cells + 1 ≤ 601024; omega), (by show slots + 6 ≤ 7293034; omega)⟩ (fun lo1 H locs hW hS h1 hmo _ => ?_)
    rw [← h1 _ v_z] at hl
    refine lv_istore (lv' := [(5, .int (0 : Int32)), (4, .int iv), (3, .ref qo), (2, .ref (q 0)), (1, .ref (lo1 (10, 0, 0))), (0, .ref b)]) hx hb dL_law_1850 hl (by decide) rfl (fun ls hl => ?_)
    refine lv_aload_n hx hb dL_law_1852 rfl (lv_at hl 3 rfl) ?_
    refine lv_aload_n hx hb dL_law_1853 rfl (lv_at hl 5 rfl) ?_
    refine lv_iload hx hb dL_law_1854 (lv_at hl 1 rfl) ?_
    refine lv_iconst (v := (1)) hx hb dL_law_1856 (by decide) ?_
    refine lv_iadd hx hb dL_law_1857 ?_
    refine va_sld hx hb hX hbl hbA hS (hin 1 (by decide) (by decide)) dL_law_1858 ?_
    refine z_callV (As := [.int (xs (iv + 1).toNatClampNeg)]) (rest := []) ⟨hx, hb, hml, hown, hts⟩ (tX10_wanted l Γ lo1 S q M [zOut Γ qo (vp_updL O 0 (y).toInt64)] h10) (cwV 1 hts gL_law_X10_wanted rfl rfl rfl (by decide +kernel) ⟨Nat.le_of_ble_eq_true rfl, Nat.le_of_ble_eq_true rfl⟩) (wd_x hW (k := 0) rfl) rfl hKK hW hS rfl hl.1 rfl (Nat.le_of_ble_eq_true rfl) dL_law_1859 ⟨(by show cells + 1 + 0 ≤ 601024; omega), (by show slots + 6 + 0 ≤ 7293034; omega)⟩ (fun H locs hW hS _ _ => ?_)
    refine lv_istore (lv' := [(6, .int r), (5, .int (0 : Int32)), (4, .int iv), (3, .ref qo), (2, .ref (q 0)), (1, .ref (lo1 (10, 0, 0))), (0, .ref b)]) hx hb dL_law_1862 hl (by decide) rfl (fun ls hl => ?_)
    refine lv_aload_n hx hb dL_law_1864 rfl (lv_at hl 4 rfl) ?_
    refine z_callV (As := []) (rest := []) ⟨hx, hb, hml, hown, hts⟩ (tX10_thrown l Γ lo1 S q M1 [zOut Γ qo (vp_updL O 0 (y).toInt64)] (show fX10_thrown M1 = some (M1 0 0) from rfl)) (cwV 0 hts gL_law_X10_thrown rfl rfl rfl (by decide +kernel) ⟨Nat.le_of_ble_eq_true rfl, Nat.le_of_ble_eq_true rfl⟩) (wd_x hW (k := 0) rfl) rfl hKK hW hS rfl hl.1 rfl (Nat.le_of_ble_eq_true rfl) dL_law_1865 ⟨(by show cells + 1 + 0 + 0 ≤ 601024; omega), (by show slots + 6 + 0 + 0 ≤ 7293034; omega)⟩ (fun H locs hW hS _ _ => ?_)
    refine lv_iload hx hb dL_law_1868 (lv_at hl 1 rfl) ?_
    refine lv_icmp_eq (tgt := 1875) hx hb dL_law_1870 (by decide) (fun _ => ?_) (fun k => absurd hth k)
    refine lv_iload hx hb dL_law_1875 (lv_at hl 1 rfl) ?_
    refine lv_if_ne (tgt := 1892) hx hb dL_law_1877 (by decide) (fun k => absurd rfl k) (fun _ => ?_)
    refine lv_aload_n hx hb dL_law_1880 rfl (lv_at hl 3 rfl) ?_
    refine lv_iconst (v := (0)) hx hb dL_law_1881 (by decide) ?_
    refine va_lald hx hb hKK.1 (wd_x hW (k := 47) rfl) 0 1 (n := 1) rfl rfl (by unfold vp_in; decide) dL_law_1882 ?_
    rw [show vp_updL O 0 (y).toInt64 (0 : Int32).toNatClampNeg = (y).toInt64 from rfl, hfv]
    refine lv_iload hx hb dL_law_1883 (lv_at hl 0 rfl) ?_
    refine lv_i2l hx hb dL_law_1885 rfl ?_
    refine W.lcmp hx hb dL_law_1886 ?_
    rw [lg_same]
    refine lv_if_eq (tgt := 1892) hx hb dL_law_1887 (by decide) (fun _ => ?_) (fun k => absurd rfl k)
    refine lv_goto (tgt := 2131) hx hb dL_law_1892 (by decide) ?_
    refine W.widen (k := cells + 12) (n := slots + 2700) (by omega) (by omega) ?_
    exact kk lo1 S M1 (vp_updL O 0 (y).toInt64) H locs ls hT1 hW hS (lv_sub hl [2, 3, 4, 5, 6] rfl)
  · skip
    refine w_call (As := [.ref (lo (10, 0, 0)), .int (xs (iv + 1).toNatClampNeg), .ref qo]) (rest := []) ⟨hx, hb, hml, hown, hts⟩ (uL_wanted l hl0 Γ lo S (mcl Γ q M) qo O v_z h9 (by simpa using hn)) (vx_cwSW 3 hts gL_law_L_wanted rfl rfl rfl (by decide +kernel) ⟨Nat.le_of_ble_eq_true rfl, Nat.le_of_ble_eq_true rfl⟩) hKK hKX hKY hKN hW hS rfl hl.1 rfl (Nat.le_of_ble_eq_true rfl) dL_law_1847 ⟨(by show cells + 1 ≤ 601024; omega), (by show slots + 6 ≤ 7293034; omega)⟩ (fun lo1 H locs hW hS h1 hmo _ => ?_)
    rw [← h1 _ v_z] at hl
    refine lv_istore (lv' := [(5, .int (kL [2] ee.1)), (4, .int iv), (3, .ref qo), (2, .ref (q 0)), (1, .ref (lo1 (10, 0, 0))), (0, .ref b)]) hx hb dL_law_1850 hl (by decide) rfl (fun ls hl => ?_)
    refine lv_aload_n hx hb dL_law_1852 rfl (lv_at hl 3 rfl) ?_
    refine lv_aload_n hx hb dL_law_1853 rfl (lv_at hl 5 rfl) ?_
    refine lv_iload hx hb dL_law_1854 (lv_at hl 1 rfl) ?_
    refine lv_iconst (v := (1)) hx hb dL_law_1856 (by decide) ?_
    refine lv_iadd hx hb dL_law_1857 ?_
    refine va_sld hx hb hX hbl hbA hS (hin 1 (by decide) (by decide)) dL_law_1858 ?_
    refine z_callV (As := [.int (xs (iv + 1).toNatClampNeg)]) (rest := []) ⟨hx, hb, hml, hown, hts⟩ (tX10_wanted l Γ lo1 ee.2 q M [zOut Γ qo O] h10) (cwV 1 hts gL_law_X10_wanted rfl rfl rfl (by decide +kernel) ⟨Nat.le_of_ble_eq_true rfl, Nat.le_of_ble_eq_true rfl⟩) (wd_x hW (k := 0) rfl) rfl hKK hW hS rfl hl.1 rfl (Nat.le_of_ble_eq_true rfl) dL_law_1859 ⟨(by show cells + 1 + 0 ≤ 601024; omega), (by show slots + 6 + 0 ≤ 7293034; omega)⟩ (fun H locs hW hS _ _ => ?_)
    refine lv_istore (lv' := [(6, .int r), (5, .int (kL [2] ee.1)), (4, .int iv), (3, .ref qo), (2, .ref (q 0)), (1, .ref (lo1 (10, 0, 0))), (0, .ref b)]) hx hb dL_law_1862 hl (by decide) rfl (fun ls hl => ?_)
    refine lv_aload_n hx hb dL_law_1864 rfl (lv_at hl 4 rfl) ?_
    refine z_callV (As := []) (rest := []) ⟨hx, hb, hml, hown, hts⟩ (tX10_thrown l Γ lo1 ee.2 q M1 [zOut Γ qo O] (show fX10_thrown M1 = some (M1 0 0) from rfl)) (cwV 0 hts gL_law_X10_thrown rfl rfl rfl (by decide +kernel) ⟨Nat.le_of_ble_eq_true rfl, Nat.le_of_ble_eq_true rfl⟩) (wd_x hW (k := 0) rfl) rfl hKK hW hS rfl hl.1 rfl (Nat.le_of_ble_eq_true rfl) dL_law_1865 ⟨(by show cells + 1 + 0 + 0 ≤ 601024; omega), (by show slots + 6 + 0 + 0 ≤ 7293034; omega)⟩ (fun H locs hW hS _ _ => ?_)
    refine lv_iload hx hb dL_law_1868 (lv_at hl 1 rfl) ?_
    refine lv_icmp_eq (tgt := 1875) hx hb dL_law_1870 (by decide) (fun _ => ?_) (fun k => absurd hth k)
    refine lv_iload hx hb dL_law_1875 (lv_at hl 1 rfl) ?_
    refine lv_if_ne (tgt := 1892) hx hb dL_law_1877 (by decide) (fun _ => ?_) (fun k => absurd k (kL_ne _ _ hn (Nat.le_of_ble_eq_true rfl)))
    refine lv_goto (tgt := 2131) hx hb dL_law_1892 (by decide) ?_
    refine W.widen (k := cells + 12) (n := slots + 2700) (by omega) (by omega) ?_
    exact kk lo1 ee.2 M1 O H locs ls hT1 hW hS (lv_sub hl [2, 3, 4, 5, 6] rfl)

set_option maxHeartbeats 4000000 in
set_option maxRecDepth 100000 in
theorem lw_c27 {p : Program} {e : Env} {s : State} {m : MethodId} {below : List Frame} {meth : Method} {c : Code} {Q : State → Prop} (l : Launch) (hl0 : l.stackTraces = false) {Γ : zG} {T : zSt → zMs → Prop} (hT : zSteps T) {b L : Nat} {xs : Nat → Int32} (C0 : lwC p s m meth c Γ b L xs) {lo : zId → Nat} {S : zSt} {q : Nat → Nat} {M : zMs} {qo : Nat} {O : Nat → Int64} {iv : Int32} {cells slots : Nat} {H : Heap} {locs : List Loc} {ls : Array Slot} (hTT : T S M) (hW : Wd Γ lo S (mcl Γ q M ++ [zOut Γ qo O]) H) (hS : va_S (zA Γ) s.heap H locs) (hl : lv_has ls 8 (lwLv lo (q 0) qo b iv)) (hin : ∀ k : Int32, 0 ≤ k → k ≤ 5 → vp_in (iv + k) L) (hc : cells + 12 ≤ 601024) (hs : slots + 2700 ≤ 7293034) (kk : ∀ (lo1 : zId → Nat) (S1 : zSt) (M1 : zMs) (O1 : Nat → Int64) (H1 : Heap) (locs1 : List Loc) (ls1 : Array Slot), T S1 M1 → Wd Γ lo1 S1 (mcl Γ q M1 ++ [zOut Γ qo O1]) H1 → va_S (zA Γ) s.heap H1 locs1 → lv_has ls1 8 (lwLv lo1 (q 0) qo b iv) → W p l e room_1 s m #[Value.ref b] below meth c H1 locs1 (cells + 12) (slots + 2700) Q (F0 m 2131 ls1 [])) : W p l e room_1 s m #[Value.ref b] below meth c H locs cells slots Q (F0 m 1895 ls []) := by
  obtain ⟨hx, hb, hml, hown, hts, hX, hbl, hbA, hB0, hKK, hKX, hKY, hKN⟩ := C0
  have v_z : zV S (10, 0, 0) = true := hT.1 _ _ hTT
  have hl : lv_has ls 8 [(4, .int iv), (3, .ref qo), (2, .ref (q 0)), (1, .ref (lo (10, 0, 0))), (0, .ref b)] := hl
  refine lv_aload_n hx hb dL_law_1895 rfl (lv_at hl 3 rfl) ?_
  refine lv_aload_n hx hb dL_law_1896 rfl (lv_at hl 4 rfl) ?_
  refine lv_iload hx hb dL_law_1897 (lv_at hl 0 rfl) ?_
  refine lv_iconst (v := (1)) hx hb dL_law_1899 (by decide) ?_
  refine lv_iadd hx hb dL_law_1900 ?_
  refine va_sld hx hb hX hbl hbA hS (hin 1 (by decide) (by decide)) dL_law_1901 ?_
  refine lv_aload_n hx hb dL_law_1902 rfl (lv_at hl 1 rfl) ?_
  rcases st_way hT S M (xs (iv + 1).toNatClampNeg) hTT with ⟨y, r, M1, h9, h10, hth, hfv, hT1⟩ | ⟨ee, r, M1, h9, h10, hn, hth, hT1⟩
  · dsimp only at hfv hT1
    refine w_call (As := [.ref (lo (10, 0, 0)), .int (xs (iv + 1).toNatClampNeg), .ref qo]) (rest := []) ⟨hx, hb, hml, hown, hts⟩ (tL_way l Γ lo S (mcl Γ q M) qo O v_z h9) (vx_cwSW 3 hts gL_law_L_way rfl rfl rfl (by decide +kernel) ⟨Nat.le_of_ble_eq_true rfl, Nat.le_of_ble_eq_true rfl⟩) hKK hKX hKY hKN hW hS rfl hl.1 rfl (Nat.le_of_ble_eq_true rfl) dL_law_1903 ⟨(by show cells + 1 ≤ 601024; omega), (by show slots + 6 ≤ 7293034; omega)⟩ (fun lo1 H locs hW hS h1 hmo _ => ?_)
    rw [← h1 _ v_z] at hl
    refine lv_istore (lv' := [(5, .int (0 : Int32)), (4, .int iv), (3, .ref qo), (2, .ref (q 0)), (1, .ref (lo1 (10, 0, 0))), (0, .ref b)]) hx hb dL_law_1906 hl (by decide) rfl (fun ls hl => ?_)
    refine lv_aload_n hx hb dL_law_1908 rfl (lv_at hl 3 rfl) ?_
    refine lv_aload_n hx hb dL_law_1909 rfl (lv_at hl 5 rfl) ?_
    refine lv_iload hx hb dL_law_1910 (lv_at hl 1 rfl) ?_
    refine lv_iconst (v := (1)) hx hb dL_law_1912 (by decide) ?_
    refine lv_iadd hx hb dL_law_1913 ?_
    refine va_sld hx hb hX hbl hbA hS (hin 1 (by decide) (by decide)) dL_law_1914 ?_
    refine z_callV (As := [.int (xs (iv + 1).toNatClampNeg)]) (rest := []) ⟨hx, hb, hml, hown, hts⟩ (tX10_way l Γ lo1 y.2 q M [zOut Γ qo (vp_updL O 0 (y.1).toInt64)] h10) (cwV 1 hts gL_law_X10_way rfl rfl rfl (by decide +kernel) ⟨Nat.le_of_ble_eq_true rfl, Nat.le_of_ble_eq_true rfl⟩) (wd_x hW (k := 0) rfl) rfl hKK hW hS rfl hl.1 rfl (Nat.le_of_ble_eq_true rfl) dL_law_1915 ⟨(by show cells + 1 + 0 ≤ 601024; omega), (by show slots + 6 + 0 ≤ 7293034; omega)⟩ (fun H locs hW hS _ _ => ?_)
    refine lv_istore (lv' := [(6, .int r), (5, .int (0 : Int32)), (4, .int iv), (3, .ref qo), (2, .ref (q 0)), (1, .ref (lo1 (10, 0, 0))), (0, .ref b)]) hx hb dL_law_1918 hl (by decide) rfl (fun ls hl => ?_)
    refine lv_aload_n hx hb dL_law_1920 rfl (lv_at hl 4 rfl) ?_
    refine z_callV (As := []) (rest := []) ⟨hx, hb, hml, hown, hts⟩ (tX10_thrown l Γ lo1 y.2 q M1 [zOut Γ qo (vp_updL O 0 (y.1).toInt64)] (show fX10_thrown M1 = some (M1 0 0) from rfl)) (cwV 0 hts gL_law_X10_thrown rfl rfl rfl (by decide +kernel) ⟨Nat.le_of_ble_eq_true rfl, Nat.le_of_ble_eq_true rfl⟩) (wd_x hW (k := 0) rfl) rfl hKK hW hS rfl hl.1 rfl (Nat.le_of_ble_eq_true rfl) dL_law_1921 ⟨(by show cells + 1 + 0 + 0 ≤ 601024; omega), (by show slots + 6 + 0 + 0 ≤ 7293034; omega)⟩ (fun H locs hW hS _ _ => ?_)
    refine lv_iload hx hb dL_law_1924 (lv_at hl 1 rfl) ?_
    refine lv_icmp_eq (tgt := 1931) hx hb dL_law_1926 (by decide) (fun _ => ?_) (fun k => absurd hth k)
    refine lv_iload hx hb dL_law_1931 (lv_at hl 1 rfl) ?_
    refine lv_if_ne (tgt := 1948) hx hb dL_law_1933 (by decide) (fun k => absurd rfl k) (fun _ => ?_)
    refine lv_aload_n hx hb dL_law_1936 rfl (lv_at hl 3 rfl) ?_
    refine lv_iconst (v := (0)) hx hb dL_law_1937 (by decide) ?_
    refine va_lald hx hb hKK.1 (wd_x hW (k := 47) rfl) 0 1 (n := 1) rfl rfl (by unfold vp_in; decide) dL_law_1938 ?_
    rw [show vp_updL O 0 (y.1).toInt64 (0 : Int32).toNatClampNeg = (y.1).toInt64 from rfl, hfv]
    refine lv_iload hx hb dL_law_1939 (lv_at hl 0 rfl) ?_
    refine lv_i2l hx hb dL_law_1941 rfl ?_
    refine W.lcmp hx hb dL_law_1942 ?_
    rw [lg_same]
    refine lv_if_eq (tgt := 1948) hx hb dL_law_1943 (by decide) (fun _ => ?_) (fun k => absurd rfl k)
    refine lv_goto (tgt := 2131) hx hb dL_law_1948 (by decide) ?_
    refine W.widen (k := cells + 12) (n := slots + 2700) (by omega) (by omega) ?_
    exact kk lo1 y.2 M1 (vp_updL O 0 (y.1).toInt64) H locs ls hT1 hW hS (lv_sub hl [2, 3, 4, 5, 6] rfl)
  · skip
    refine w_call (As := [.ref (lo (10, 0, 0)), .int (xs (iv + 1).toNatClampNeg), .ref qo]) (rest := []) ⟨hx, hb, hml, hown, hts⟩ (uL_way l hl0 Γ lo S (mcl Γ q M) qo O v_z h9 (by simpa using hn)) (vx_cwSW 3 hts gL_law_L_way rfl rfl rfl (by decide +kernel) ⟨Nat.le_of_ble_eq_true rfl, Nat.le_of_ble_eq_true rfl⟩) hKK hKX hKY hKN hW hS rfl hl.1 rfl (Nat.le_of_ble_eq_true rfl) dL_law_1903 ⟨(by show cells + 1 ≤ 601024; omega), (by show slots + 6 ≤ 7293034; omega)⟩ (fun lo1 H locs hW hS h1 hmo _ => ?_)
    rw [← h1 _ v_z] at hl
    refine lv_istore (lv' := [(5, .int (kL [1] ee.1)), (4, .int iv), (3, .ref qo), (2, .ref (q 0)), (1, .ref (lo1 (10, 0, 0))), (0, .ref b)]) hx hb dL_law_1906 hl (by decide) rfl (fun ls hl => ?_)
    refine lv_aload_n hx hb dL_law_1908 rfl (lv_at hl 3 rfl) ?_
    refine lv_aload_n hx hb dL_law_1909 rfl (lv_at hl 5 rfl) ?_
    refine lv_iload hx hb dL_law_1910 (lv_at hl 1 rfl) ?_
    refine lv_iconst (v := (1)) hx hb dL_law_1912 (by decide) ?_
    refine lv_iadd hx hb dL_law_1913 ?_
    refine va_sld hx hb hX hbl hbA hS (hin 1 (by decide) (by decide)) dL_law_1914 ?_
    refine z_callV (As := [.int (xs (iv + 1).toNatClampNeg)]) (rest := []) ⟨hx, hb, hml, hown, hts⟩ (tX10_way l Γ lo1 ee.2 q M [zOut Γ qo O] h10) (cwV 1 hts gL_law_X10_way rfl rfl rfl (by decide +kernel) ⟨Nat.le_of_ble_eq_true rfl, Nat.le_of_ble_eq_true rfl⟩) (wd_x hW (k := 0) rfl) rfl hKK hW hS rfl hl.1 rfl (Nat.le_of_ble_eq_true rfl) dL_law_1915 ⟨(by show cells + 1 + 0 ≤ 601024; omega), (by show slots + 6 + 0 ≤ 7293034; omega)⟩ (fun H locs hW hS _ _ => ?_)
    refine lv_istore (lv' := [(6, .int r), (5, .int (kL [1] ee.1)), (4, .int iv), (3, .ref qo), (2, .ref (q 0)), (1, .ref (lo1 (10, 0, 0))), (0, .ref b)]) hx hb dL_law_1918 hl (by decide) rfl (fun ls hl => ?_)
    refine lv_aload_n hx hb dL_law_1920 rfl (lv_at hl 4 rfl) ?_
    refine z_callV (As := []) (rest := []) ⟨hx, hb, hml, hown, hts⟩ (tX10_thrown l Γ lo1 ee.2 q M1 [zOut Γ qo O] (show fX10_thrown M1 = some (M1 0 0) from rfl)) (cwV 0 hts gL_law_X10_thrown rfl rfl rfl (by decide +kernel) ⟨Nat.le_of_ble_eq_true rfl, Nat.le_of_ble_eq_true rfl⟩) (wd_x hW (k := 0) rfl) rfl hKK hW hS rfl hl.1 rfl (Nat.le_of_ble_eq_true rfl) dL_law_1921 ⟨(by show cells + 1 + 0 + 0 ≤ 601024; omega), (by show slots + 6 + 0 + 0 ≤ 7293034; omega)⟩ (fun H locs hW hS _ _ => ?_)
    refine lv_iload hx hb dL_law_1924 (lv_at hl 1 rfl) ?_
    refine lv_icmp_eq (tgt := 1931) hx hb dL_law_1926 (by decide) (fun _ => ?_) (fun k => absurd hth k)
    refine lv_iload hx hb dL_law_1931 (lv_at hl 1 rfl) ?_
    refine lv_if_ne (tgt := 1948) hx hb dL_law_1933 (by decide) (fun _ => ?_) (fun k => absurd k (kL_ne _ _ hn (Nat.le_of_ble_eq_true rfl)))
    refine lv_goto (tgt := 2131) hx hb dL_law_1948 (by decide) ?_
    refine W.widen (k := cells + 12) (n := slots + 2700) (by omega) (by omega) ?_
    exact kk lo1 ee.2 M1 O H locs ls hT1 hW hS (lv_sub hl [2, 3, 4, 5, 6] rfl)

set_option maxHeartbeats 4000000 in
set_option maxRecDepth 100000 in
theorem lw_c28 {p : Program} {e : Env} {s : State} {m : MethodId} {below : List Frame} {meth : Method} {c : Code} {Q : State → Prop} (l : Launch) (hl0 : l.stackTraces = false) {Γ : zG} {T : zSt → zMs → Prop} (hT : zSteps T) {b L : Nat} {xs : Nat → Int32} (C0 : lwC p s m meth c Γ b L xs) {lo : zId → Nat} {S : zSt} {q : Nat → Nat} {M : zMs} {qo : Nat} {O : Nat → Int64} {iv : Int32} {cells slots : Nat} {H : Heap} {locs : List Loc} {ls : Array Slot} (hTT : T S M) (hW : Wd Γ lo S (mcl Γ q M ++ [zOut Γ qo O]) H) (hS : va_S (zA Γ) s.heap H locs) (hl : lv_has ls 8 (lwLv lo (q 0) qo b iv)) (hin : ∀ k : Int32, 0 ≤ k → k ≤ 5 → vp_in (iv + k) L) (hc : cells + 12 ≤ 601024) (hs : slots + 2700 ≤ 7293034) (kk : ∀ (lo1 : zId → Nat) (S1 : zSt) (M1 : zMs) (O1 : Nat → Int64) (H1 : Heap) (locs1 : List Loc) (ls1 : Array Slot), T S1 M1 → Wd Γ lo1 S1 (mcl Γ q M1 ++ [zOut Γ qo O1]) H1 → va_S (zA Γ) s.heap H1 locs1 → lv_has ls1 8 (lwLv lo1 (q 0) qo b iv) → W p l e room_1 s m #[Value.ref b] below meth c H1 locs1 (cells + 12) (slots + 2700) Q (F0 m 2131 ls1 [])) : W p l e room_1 s m #[Value.ref b] below meth c H locs cells slots Q (F0 m 1951 ls []) := by
  obtain ⟨hx, hb, hml, hown, hts, hX, hbl, hbA, hB0, hKK, hKX, hKY, hKN⟩ := C0
  have v_z : zV S (10, 0, 0) = true := hT.1 _ _ hTT
  have hl : lv_has ls 8 [(4, .int iv), (3, .ref qo), (2, .ref (q 0)), (1, .ref (lo (10, 0, 0))), (0, .ref b)] := hl
  refine lv_aload_n hx hb dL_law_1951 rfl (lv_at hl 3 rfl) ?_
  refine lv_aload_n hx hb dL_law_1952 rfl (lv_at hl 4 rfl) ?_
  refine lv_iload hx hb dL_law_1953 (lv_at hl 0 rfl) ?_
  refine lv_iconst (v := (1)) hx hb dL_law_1955 (by decide) ?_
  refine lv_iadd hx hb dL_law_1956 ?_
  refine va_sld hx hb hX hbl hbA hS (hin 1 (by decide) (by decide)) dL_law_1957 ?_
  refine lv_aload_n hx hb dL_law_1958 rfl (lv_at hl 4 rfl) ?_
  refine lv_iload hx hb dL_law_1959 (lv_at hl 0 rfl) ?_
  refine lv_iconst (v := (2)) hx hb dL_law_1961 (by decide) ?_
  refine lv_iadd hx hb dL_law_1962 ?_
  refine va_sld hx hb hX hbl hbA hS (hin 2 (by decide) (by decide)) dL_law_1963 ?_
  refine lv_aload_n hx hb dL_law_1964 rfl (lv_at hl 1 rfl) ?_
  rcases st_planned hT S M (xs (iv + 1).toNatClampNeg) (xs (iv + 2).toNatClampNeg) hTT with ⟨y, r, M1, h9, h10, hth, hfv, hT1⟩ | ⟨ee, r, M1, h9, h10, hn, hth, hT1⟩
  · dsimp only at hfv hT1
    refine w_call (As := [.ref (lo (10, 0, 0)), .int (xs (iv + 1).toNatClampNeg), .int (xs (iv + 2).toNatClampNeg), .ref qo]) (rest := []) ⟨hx, hb, hml, hown, hts⟩ (tL_planned l Γ lo S (mcl Γ q M) qo O v_z h9) (vx_cwSW 4 hts gL_law_L_planned rfl rfl rfl (by decide +kernel) ⟨Nat.le_of_ble_eq_true rfl, Nat.le_of_ble_eq_true rfl⟩) hKK hKX hKY hKN hW hS rfl hl.1 rfl (Nat.le_of_ble_eq_true rfl) dL_law_1965 ⟨(by show cells + 1 ≤ 601024; omega), (by show slots + 6 ≤ 7293034; omega)⟩ (fun lo1 H locs hW hS h1 hmo _ => ?_)
    rw [← h1 _ v_z] at hl
    refine lv_istore (lv' := [(5, .int (0 : Int32)), (4, .int iv), (3, .ref qo), (2, .ref (q 0)), (1, .ref (lo1 (10, 0, 0))), (0, .ref b)]) hx hb dL_law_1968 hl (by decide) rfl (fun ls hl => ?_)
    refine lv_aload_n hx hb dL_law_1970 rfl (lv_at hl 3 rfl) ?_
    refine lv_aload_n hx hb dL_law_1971 rfl (lv_at hl 5 rfl) ?_
    refine lv_iload hx hb dL_law_1972 (lv_at hl 1 rfl) ?_
    refine lv_iconst (v := (1)) hx hb dL_law_1974 (by decide) ?_
    refine lv_iadd hx hb dL_law_1975 ?_
    refine va_sld hx hb hX hbl hbA hS (hin 1 (by decide) (by decide)) dL_law_1976 ?_
    refine lv_aload_n hx hb dL_law_1977 rfl (lv_at hl 5 rfl) ?_
    refine lv_iload hx hb dL_law_1978 (lv_at hl 1 rfl) ?_
    refine lv_iconst (v := (2)) hx hb dL_law_1980 (by decide) ?_
    refine lv_iadd hx hb dL_law_1981 ?_
    refine va_sld hx hb hX hbl hbA hS (hin 2 (by decide) (by decide)) dL_law_1982 ?_
    refine z_callV (As := [.int (xs (iv + 1).toNatClampNeg), .int (xs (iv + 2).toNatClampNeg)]) (rest := []) ⟨hx, hb, hml, hown, hts⟩ (tX10_planned l Γ lo1 y.2 q M [zOut Γ qo (vp_updL O 0 (y.1).toInt64)] h10) (cwV 2 hts gL_law_X10_planned rfl rfl rfl (by decide +kernel) ⟨Nat.le_of_ble_eq_true rfl, Nat.le_of_ble_eq_true rfl⟩) (wd_x hW (k := 0) rfl) rfl hKK hW hS rfl hl.1 rfl (Nat.le_of_ble_eq_true rfl) dL_law_1983 ⟨(by show cells + 1 + 0 ≤ 601024; omega), (by show slots + 6 + 0 ≤ 7293034; omega)⟩ (fun H locs hW hS _ _ => ?_)
    refine lv_istore (lv' := [(6, .int r), (5, .int (0 : Int32)), (4, .int iv), (3, .ref qo), (2, .ref (q 0)), (1, .ref (lo1 (10, 0, 0))), (0, .ref b)]) hx hb dL_law_1986 hl (by decide) rfl (fun ls hl => ?_)
    refine lv_aload_n hx hb dL_law_1988 rfl (lv_at hl 4 rfl) ?_
    refine z_callV (As := []) (rest := []) ⟨hx, hb, hml, hown, hts⟩ (tX10_thrown l Γ lo1 y.2 q M1 [zOut Γ qo (vp_updL O 0 (y.1).toInt64)] (show fX10_thrown M1 = some (M1 0 0) from rfl)) (cwV 0 hts gL_law_X10_thrown rfl rfl rfl (by decide +kernel) ⟨Nat.le_of_ble_eq_true rfl, Nat.le_of_ble_eq_true rfl⟩) (wd_x hW (k := 0) rfl) rfl hKK hW hS rfl hl.1 rfl (Nat.le_of_ble_eq_true rfl) dL_law_1989 ⟨(by show cells + 1 + 0 + 0 ≤ 601024; omega), (by show slots + 6 + 0 + 0 ≤ 7293034; omega)⟩ (fun H locs hW hS _ _ => ?_)
    refine lv_iload hx hb dL_law_1992 (lv_at hl 1 rfl) ?_
    refine lv_icmp_eq (tgt := 1999) hx hb dL_law_1994 (by decide) (fun _ => ?_) (fun k => absurd hth k)
    refine lv_iload hx hb dL_law_1999 (lv_at hl 1 rfl) ?_
    refine lv_if_ne (tgt := 2016) hx hb dL_law_2001 (by decide) (fun k => absurd rfl k) (fun _ => ?_)
    refine lv_aload_n hx hb dL_law_2004 rfl (lv_at hl 3 rfl) ?_
    refine lv_iconst (v := (0)) hx hb dL_law_2005 (by decide) ?_
    refine va_lald hx hb hKK.1 (wd_x hW (k := 47) rfl) 0 1 (n := 1) rfl rfl (by unfold vp_in; decide) dL_law_2006 ?_
    rw [show vp_updL O 0 (y.1).toInt64 (0 : Int32).toNatClampNeg = (y.1).toInt64 from rfl, hfv]
    refine lv_iload hx hb dL_law_2007 (lv_at hl 0 rfl) ?_
    refine lv_i2l hx hb dL_law_2009 rfl ?_
    refine W.lcmp hx hb dL_law_2010 ?_
    rw [lg_same]
    refine lv_if_eq (tgt := 2016) hx hb dL_law_2011 (by decide) (fun _ => ?_) (fun k => absurd rfl k)
    refine lv_goto (tgt := 2131) hx hb dL_law_2016 (by decide) ?_
    refine W.widen (k := cells + 12) (n := slots + 2700) (by omega) (by omega) ?_
    exact kk lo1 y.2 M1 (vp_updL O 0 (y.1).toInt64) H locs ls hT1 hW hS (lv_sub hl [2, 3, 4, 5, 6] rfl)
  · skip
    refine w_call (As := [.ref (lo (10, 0, 0)), .int (xs (iv + 1).toNatClampNeg), .int (xs (iv + 2).toNatClampNeg), .ref qo]) (rest := []) ⟨hx, hb, hml, hown, hts⟩ (uL_planned l hl0 Γ lo S (mcl Γ q M) qo O v_z h9 (by simpa using hn)) (vx_cwSW 4 hts gL_law_L_planned rfl rfl rfl (by decide +kernel) ⟨Nat.le_of_ble_eq_true rfl, Nat.le_of_ble_eq_true rfl⟩) hKK hKX hKY hKN hW hS rfl hl.1 rfl (Nat.le_of_ble_eq_true rfl) dL_law_1965 ⟨(by show cells + 1 ≤ 601024; omega), (by show slots + 6 ≤ 7293034; omega)⟩ (fun lo1 H locs hW hS h1 hmo _ => ?_)
    rw [← h1 _ v_z] at hl
    refine lv_istore (lv' := [(5, .int (kL [1] ee.1)), (4, .int iv), (3, .ref qo), (2, .ref (q 0)), (1, .ref (lo1 (10, 0, 0))), (0, .ref b)]) hx hb dL_law_1968 hl (by decide) rfl (fun ls hl => ?_)
    refine lv_aload_n hx hb dL_law_1970 rfl (lv_at hl 3 rfl) ?_
    refine lv_aload_n hx hb dL_law_1971 rfl (lv_at hl 5 rfl) ?_
    refine lv_iload hx hb dL_law_1972 (lv_at hl 1 rfl) ?_
    refine lv_iconst (v := (1)) hx hb dL_law_1974 (by decide) ?_
    refine lv_iadd hx hb dL_law_1975 ?_
    refine va_sld hx hb hX hbl hbA hS (hin 1 (by decide) (by decide)) dL_law_1976 ?_
    refine lv_aload_n hx hb dL_law_1977 rfl (lv_at hl 5 rfl) ?_
    refine lv_iload hx hb dL_law_1978 (lv_at hl 1 rfl) ?_
    refine lv_iconst (v := (2)) hx hb dL_law_1980 (by decide) ?_
    refine lv_iadd hx hb dL_law_1981 ?_
    refine va_sld hx hb hX hbl hbA hS (hin 2 (by decide) (by decide)) dL_law_1982 ?_
    refine z_callV (As := [.int (xs (iv + 1).toNatClampNeg), .int (xs (iv + 2).toNatClampNeg)]) (rest := []) ⟨hx, hb, hml, hown, hts⟩ (tX10_planned l Γ lo1 ee.2 q M [zOut Γ qo O] h10) (cwV 2 hts gL_law_X10_planned rfl rfl rfl (by decide +kernel) ⟨Nat.le_of_ble_eq_true rfl, Nat.le_of_ble_eq_true rfl⟩) (wd_x hW (k := 0) rfl) rfl hKK hW hS rfl hl.1 rfl (Nat.le_of_ble_eq_true rfl) dL_law_1983 ⟨(by show cells + 1 + 0 ≤ 601024; omega), (by show slots + 6 + 0 ≤ 7293034; omega)⟩ (fun H locs hW hS _ _ => ?_)
    refine lv_istore (lv' := [(6, .int r), (5, .int (kL [1] ee.1)), (4, .int iv), (3, .ref qo), (2, .ref (q 0)), (1, .ref (lo1 (10, 0, 0))), (0, .ref b)]) hx hb dL_law_1986 hl (by decide) rfl (fun ls hl => ?_)
    refine lv_aload_n hx hb dL_law_1988 rfl (lv_at hl 4 rfl) ?_
    refine z_callV (As := []) (rest := []) ⟨hx, hb, hml, hown, hts⟩ (tX10_thrown l Γ lo1 ee.2 q M1 [zOut Γ qo O] (show fX10_thrown M1 = some (M1 0 0) from rfl)) (cwV 0 hts gL_law_X10_thrown rfl rfl rfl (by decide +kernel) ⟨Nat.le_of_ble_eq_true rfl, Nat.le_of_ble_eq_true rfl⟩) (wd_x hW (k := 0) rfl) rfl hKK hW hS rfl hl.1 rfl (Nat.le_of_ble_eq_true rfl) dL_law_1989 ⟨(by show cells + 1 + 0 + 0 ≤ 601024; omega), (by show slots + 6 + 0 + 0 ≤ 7293034; omega)⟩ (fun H locs hW hS _ _ => ?_)
    refine lv_iload hx hb dL_law_1992 (lv_at hl 1 rfl) ?_
    refine lv_icmp_eq (tgt := 1999) hx hb dL_law_1994 (by decide) (fun _ => ?_) (fun k => absurd hth k)
    refine lv_iload hx hb dL_law_1999 (lv_at hl 1 rfl) ?_
    refine lv_if_ne (tgt := 2016) hx hb dL_law_2001 (by decide) (fun _ => ?_) (fun k => absurd k (kL_ne _ _ hn (Nat.le_of_ble_eq_true rfl)))
    refine lv_goto (tgt := 2131) hx hb dL_law_2016 (by decide) ?_
    refine W.widen (k := cells + 12) (n := slots + 2700) (by omega) (by omega) ?_
    exact kk lo1 ee.2 M1 O H locs ls hT1 hW hS (lv_sub hl [2, 3, 4, 5, 6] rfl)

set_option maxHeartbeats 4000000 in
set_option maxRecDepth 100000 in
theorem lw_c29 {p : Program} {e : Env} {s : State} {m : MethodId} {below : List Frame} {meth : Method} {c : Code} {Q : State → Prop} (l : Launch) (hl0 : l.stackTraces = false) {Γ : zG} {T : zSt → zMs → Prop} (hT : zSteps T) {b L : Nat} {xs : Nat → Int32} (C0 : lwC p s m meth c Γ b L xs) {lo : zId → Nat} {S : zSt} {q : Nat → Nat} {M : zMs} {qo : Nat} {O : Nat → Int64} {iv : Int32} {cells slots : Nat} {H : Heap} {locs : List Loc} {ls : Array Slot} (hTT : T S M) (hW : Wd Γ lo S (mcl Γ q M ++ [zOut Γ qo O]) H) (hS : va_S (zA Γ) s.heap H locs) (hl : lv_has ls 8 (lwLv lo (q 0) qo b iv)) (hin : ∀ k : Int32, 0 ≤ k → k ≤ 5 → vp_in (iv + k) L) (hc : cells + 12 ≤ 601024) (hs : slots + 2700 ≤ 7293034) (kk : ∀ (lo1 : zId → Nat) (S1 : zSt) (M1 : zMs) (O1 : Nat → Int64) (H1 : Heap) (locs1 : List Loc) (ls1 : Array Slot), T S1 M1 → Wd Γ lo1 S1 (mcl Γ q M1 ++ [zOut Γ qo O1]) H1 → va_S (zA Γ) s.heap H1 locs1 → lv_has ls1 8 (lwLv lo1 (q 0) qo b iv) → W p l e room_1 s m #[Value.ref b] below meth c H1 locs1 (cells + 12) (slots + 2700) Q (F0 m 2131 ls1 [])) : W p l e room_1 s m #[Value.ref b] below meth c H locs cells slots Q (F0 m 2019 ls []) := by
  obtain ⟨hx, hb, hml, hown, hts, hX, hbl, hbA, hB0, hKK, hKX, hKY, hKN⟩ := C0
  have v_z : zV S (10, 0, 0) = true := hT.1 _ _ hTT
  have hl : lv_has ls 8 [(4, .int iv), (3, .ref qo), (2, .ref (q 0)), (1, .ref (lo (10, 0, 0))), (0, .ref b)] := hl
  refine lv_aload_n hx hb dL_law_2019 rfl (lv_at hl 3 rfl) ?_
  refine lv_aload_n hx hb dL_law_2020 rfl (lv_at hl 4 rfl) ?_
  refine lv_iload hx hb dL_law_2021 (lv_at hl 0 rfl) ?_
  refine lv_iconst (v := (1)) hx hb dL_law_2023 (by decide) ?_
  refine lv_iadd hx hb dL_law_2024 ?_
  refine va_sld hx hb hX hbl hbA hS (hin 1 (by decide) (by decide)) dL_law_2025 ?_
  refine lv_aload_n hx hb dL_law_2026 rfl (lv_at hl 1 rfl) ?_
  rcases st_go hT S M (xs (iv + 1).toNatClampNeg) hTT with ⟨y, r, M1, h9, h10, hth, hfv, hT1⟩ | ⟨ee, r, M1, h9, h10, hn, hth, hT1⟩
  · dsimp only at hfv hT1
    refine w_call (As := [.ref (lo (10, 0, 0)), .int (xs (iv + 1).toNatClampNeg), .ref qo]) (rest := []) ⟨hx, hb, hml, hown, hts⟩ (tL_go l Γ lo S (mcl Γ q M) qo O v_z h9) (vx_cwSW 3 hts gL_law_L_go rfl rfl rfl (by decide +kernel) ⟨Nat.le_of_ble_eq_true rfl, Nat.le_of_ble_eq_true rfl⟩) hKK hKX hKY hKN hW hS rfl hl.1 rfl (Nat.le_of_ble_eq_true rfl) dL_law_2027 ⟨(by show cells + 1 ≤ 601024; omega), (by show slots + 6 ≤ 7293034; omega)⟩ (fun lo1 H locs hW hS h1 hmo _ => ?_)
    rw [← h1 _ v_z] at hl
    refine lv_istore (lv' := [(5, .int (0 : Int32)), (4, .int iv), (3, .ref qo), (2, .ref (q 0)), (1, .ref (lo1 (10, 0, 0))), (0, .ref b)]) hx hb dL_law_2030 hl (by decide) rfl (fun ls hl => ?_)
    refine lv_aload_n hx hb dL_law_2032 rfl (lv_at hl 3 rfl) ?_
    refine lv_aload_n hx hb dL_law_2033 rfl (lv_at hl 5 rfl) ?_
    refine lv_iload hx hb dL_law_2034 (lv_at hl 1 rfl) ?_
    refine lv_iconst (v := (1)) hx hb dL_law_2036 (by decide) ?_
    refine lv_iadd hx hb dL_law_2037 ?_
    refine va_sld hx hb hX hbl hbA hS (hin 1 (by decide) (by decide)) dL_law_2038 ?_
    refine z_callV (As := [.int (xs (iv + 1).toNatClampNeg)]) (rest := []) ⟨hx, hb, hml, hown, hts⟩ (tX10_go l Γ lo1 y.2 q M [zOut Γ qo (vp_updL O 0 (y.1).toInt64)] h10) (cwV 1 hts gL_law_X10_go rfl rfl rfl (by decide +kernel) ⟨Nat.le_of_ble_eq_true rfl, Nat.le_of_ble_eq_true rfl⟩) (wd_x hW (k := 0) rfl) rfl hKK hW hS rfl hl.1 rfl (Nat.le_of_ble_eq_true rfl) dL_law_2039 ⟨(by show cells + 1 + 0 ≤ 601024; omega), (by show slots + 6 + 0 ≤ 7293034; omega)⟩ (fun H locs hW hS _ _ => ?_)
    refine lv_istore (lv' := [(6, .int r), (5, .int (0 : Int32)), (4, .int iv), (3, .ref qo), (2, .ref (q 0)), (1, .ref (lo1 (10, 0, 0))), (0, .ref b)]) hx hb dL_law_2042 hl (by decide) rfl (fun ls hl => ?_)
    refine lv_aload_n hx hb dL_law_2044 rfl (lv_at hl 4 rfl) ?_
    refine z_callV (As := []) (rest := []) ⟨hx, hb, hml, hown, hts⟩ (tX10_thrown l Γ lo1 y.2 q M1 [zOut Γ qo (vp_updL O 0 (y.1).toInt64)] (show fX10_thrown M1 = some (M1 0 0) from rfl)) (cwV 0 hts gL_law_X10_thrown rfl rfl rfl (by decide +kernel) ⟨Nat.le_of_ble_eq_true rfl, Nat.le_of_ble_eq_true rfl⟩) (wd_x hW (k := 0) rfl) rfl hKK hW hS rfl hl.1 rfl (Nat.le_of_ble_eq_true rfl) dL_law_2045 ⟨(by show cells + 1 + 0 + 0 ≤ 601024; omega), (by show slots + 6 + 0 + 0 ≤ 7293034; omega)⟩ (fun H locs hW hS _ _ => ?_)
    refine lv_iload hx hb dL_law_2048 (lv_at hl 1 rfl) ?_
    refine lv_icmp_eq (tgt := 2055) hx hb dL_law_2050 (by decide) (fun _ => ?_) (fun k => absurd hth k)
    refine lv_iload hx hb dL_law_2055 (lv_at hl 1 rfl) ?_
    refine lv_if_ne (tgt := 2072) hx hb dL_law_2057 (by decide) (fun k => absurd rfl k) (fun _ => ?_)
    refine lv_aload_n hx hb dL_law_2060 rfl (lv_at hl 3 rfl) ?_
    refine lv_iconst (v := (0)) hx hb dL_law_2061 (by decide) ?_
    refine va_lald hx hb hKK.1 (wd_x hW (k := 47) rfl) 0 1 (n := 1) rfl rfl (by unfold vp_in; decide) dL_law_2062 ?_
    rw [show vp_updL O 0 (y.1).toInt64 (0 : Int32).toNatClampNeg = (y.1).toInt64 from rfl, hfv]
    refine lv_iload hx hb dL_law_2063 (lv_at hl 0 rfl) ?_
    refine lv_i2l hx hb dL_law_2065 rfl ?_
    refine W.lcmp hx hb dL_law_2066 ?_
    rw [lg_same]
    refine lv_if_eq (tgt := 2072) hx hb dL_law_2067 (by decide) (fun _ => ?_) (fun k => absurd rfl k)
    refine lv_goto (tgt := 2131) hx hb dL_law_2072 (by decide) ?_
    refine W.widen (k := cells + 12) (n := slots + 2700) (by omega) (by omega) ?_
    exact kk lo1 y.2 M1 (vp_updL O 0 (y.1).toInt64) H locs ls hT1 hW hS (lv_sub hl [2, 3, 4, 5, 6] rfl)
  · skip
    refine w_call (As := [.ref (lo (10, 0, 0)), .int (xs (iv + 1).toNatClampNeg), .ref qo]) (rest := []) ⟨hx, hb, hml, hown, hts⟩ (uL_go l hl0 Γ lo S (mcl Γ q M) qo O v_z h9 (by simpa using hn)) (vx_cwSW 3 hts gL_law_L_go rfl rfl rfl (by decide +kernel) ⟨Nat.le_of_ble_eq_true rfl, Nat.le_of_ble_eq_true rfl⟩) hKK hKX hKY hKN hW hS rfl hl.1 rfl (Nat.le_of_ble_eq_true rfl) dL_law_2027 ⟨(by show cells + 1 ≤ 601024; omega), (by show slots + 6 ≤ 7293034; omega)⟩ (fun lo1 H locs hW hS h1 hmo _ => ?_)
    rw [← h1 _ v_z] at hl
    refine lv_istore (lv' := [(5, .int (kL [1, 3] ee.1)), (4, .int iv), (3, .ref qo), (2, .ref (q 0)), (1, .ref (lo1 (10, 0, 0))), (0, .ref b)]) hx hb dL_law_2030 hl (by decide) rfl (fun ls hl => ?_)
    refine lv_aload_n hx hb dL_law_2032 rfl (lv_at hl 3 rfl) ?_
    refine lv_aload_n hx hb dL_law_2033 rfl (lv_at hl 5 rfl) ?_
    refine lv_iload hx hb dL_law_2034 (lv_at hl 1 rfl) ?_
    refine lv_iconst (v := (1)) hx hb dL_law_2036 (by decide) ?_
    refine lv_iadd hx hb dL_law_2037 ?_
    refine va_sld hx hb hX hbl hbA hS (hin 1 (by decide) (by decide)) dL_law_2038 ?_
    refine z_callV (As := [.int (xs (iv + 1).toNatClampNeg)]) (rest := []) ⟨hx, hb, hml, hown, hts⟩ (tX10_go l Γ lo1 ee.2 q M [zOut Γ qo O] h10) (cwV 1 hts gL_law_X10_go rfl rfl rfl (by decide +kernel) ⟨Nat.le_of_ble_eq_true rfl, Nat.le_of_ble_eq_true rfl⟩) (wd_x hW (k := 0) rfl) rfl hKK hW hS rfl hl.1 rfl (Nat.le_of_ble_eq_true rfl) dL_law_2039 ⟨(by show cells + 1 + 0 ≤ 601024; omega), (by show slots + 6 + 0 ≤ 7293034; omega)⟩ (fun H locs hW hS _ _ => ?_)
    refine lv_istore (lv' := [(6, .int r), (5, .int (kL [1, 3] ee.1)), (4, .int iv), (3, .ref qo), (2, .ref (q 0)), (1, .ref (lo1 (10, 0, 0))), (0, .ref b)]) hx hb dL_law_2042 hl (by decide) rfl (fun ls hl => ?_)
    refine lv_aload_n hx hb dL_law_2044 rfl (lv_at hl 4 rfl) ?_
    refine z_callV (As := []) (rest := []) ⟨hx, hb, hml, hown, hts⟩ (tX10_thrown l Γ lo1 ee.2 q M1 [zOut Γ qo O] (show fX10_thrown M1 = some (M1 0 0) from rfl)) (cwV 0 hts gL_law_X10_thrown rfl rfl rfl (by decide +kernel) ⟨Nat.le_of_ble_eq_true rfl, Nat.le_of_ble_eq_true rfl⟩) (wd_x hW (k := 0) rfl) rfl hKK hW hS rfl hl.1 rfl (Nat.le_of_ble_eq_true rfl) dL_law_2045 ⟨(by show cells + 1 + 0 + 0 ≤ 601024; omega), (by show slots + 6 + 0 + 0 ≤ 7293034; omega)⟩ (fun H locs hW hS _ _ => ?_)
    refine lv_iload hx hb dL_law_2048 (lv_at hl 1 rfl) ?_
    refine lv_icmp_eq (tgt := 2055) hx hb dL_law_2050 (by decide) (fun _ => ?_) (fun k => absurd hth k)
    refine lv_iload hx hb dL_law_2055 (lv_at hl 1 rfl) ?_
    refine lv_if_ne (tgt := 2072) hx hb dL_law_2057 (by decide) (fun _ => ?_) (fun k => absurd k (kL_ne _ _ hn (Nat.le_of_ble_eq_true rfl)))
    refine lv_goto (tgt := 2131) hx hb dL_law_2072 (by decide) ?_
    refine W.widen (k := cells + 12) (n := slots + 2700) (by omega) (by omega) ?_
    exact kk lo1 ee.2 M1 O H locs ls hT1 hW hS (lv_sub hl [2, 3, 4, 5, 6] rfl)

set_option maxHeartbeats 4000000 in
set_option maxRecDepth 100000 in
theorem lw_c30 {p : Program} {e : Env} {s : State} {m : MethodId} {below : List Frame} {meth : Method} {c : Code} {Q : State → Prop} (l : Launch) (hl0 : l.stackTraces = false) {Γ : zG} {T : zSt → zMs → Prop} (hT : zSteps T) {b L : Nat} {xs : Nat → Int32} (C0 : lwC p s m meth c Γ b L xs) {lo : zId → Nat} {S : zSt} {q : Nat → Nat} {M : zMs} {qo : Nat} {O : Nat → Int64} {iv : Int32} {cells slots : Nat} {H : Heap} {locs : List Loc} {ls : Array Slot} (hTT : T S M) (hW : Wd Γ lo S (mcl Γ q M ++ [zOut Γ qo O]) H) (hS : va_S (zA Γ) s.heap H locs) (hl : lv_has ls 8 (lwLv lo (q 0) qo b iv)) (hin : ∀ k : Int32, 0 ≤ k → k ≤ 5 → vp_in (iv + k) L) (hc : cells + 12 ≤ 601024) (hs : slots + 2700 ≤ 7293034) (kk : ∀ (lo1 : zId → Nat) (S1 : zSt) (M1 : zMs) (O1 : Nat → Int64) (H1 : Heap) (locs1 : List Loc) (ls1 : Array Slot), T S1 M1 → Wd Γ lo1 S1 (mcl Γ q M1 ++ [zOut Γ qo O1]) H1 → va_S (zA Γ) s.heap H1 locs1 → lv_has ls1 8 (lwLv lo1 (q 0) qo b iv) → W p l e room_1 s m #[Value.ref b] below meth c H1 locs1 (cells + 12) (slots + 2700) Q (F0 m 2131 ls1 [])) : W p l e room_1 s m #[Value.ref b] below meth c H locs cells slots Q (F0 m 2075 ls []) := by
  obtain ⟨hx, hb, hml, hown, hts, hX, hbl, hbA, hB0, hKK, hKX, hKY, hKN⟩ := C0
  have v_z : zV S (10, 0, 0) = true := hT.1 _ _ hTT
  have hl : lv_has ls 8 [(4, .int iv), (3, .ref qo), (2, .ref (q 0)), (1, .ref (lo (10, 0, 0))), (0, .ref b)] := hl
  refine lv_aload_n hx hb dL_law_2075 rfl (lv_at hl 3 rfl) ?_
  refine lv_aload_n hx hb dL_law_2076 rfl (lv_at hl 4 rfl) ?_
  refine lv_iload hx hb dL_law_2077 (lv_at hl 0 rfl) ?_
  refine lv_iconst (v := (1)) hx hb dL_law_2079 (by decide) ?_
  refine lv_iadd hx hb dL_law_2080 ?_
  refine va_sld hx hb hX hbl hbA hS (hin 1 (by decide) (by decide)) dL_law_2081 ?_
  refine lv_aload_n hx hb dL_law_2082 rfl (lv_at hl 1 rfl) ?_
  rcases st_vanAt hT S M (xs (iv + 1).toNatClampNeg) hTT with ⟨y, r, M1, h9, h10, hth, hfv, hT1⟩ | ⟨ee, r, M1, h9, h10, hn, hth, hT1⟩
  · dsimp only at hfv hT1
    refine w_call (As := [.ref (lo (10, 0, 0)), .int (xs (iv + 1).toNatClampNeg), .ref qo]) (rest := []) ⟨hx, hb, hml, hown, hts⟩ (tL_vanAt l Γ lo S (mcl Γ q M) qo O v_z h9) (vx_cwSW 3 hts gL_law_L_vanAt rfl rfl rfl (by decide +kernel) ⟨Nat.le_of_ble_eq_true rfl, Nat.le_of_ble_eq_true rfl⟩) hKK hKX hKY hKN hW hS rfl hl.1 rfl (Nat.le_of_ble_eq_true rfl) dL_law_2083 ⟨(by show cells + 1 ≤ 601024; omega), (by show slots + 6 ≤ 7293034; omega)⟩ (fun lo1 H locs hW hS h1 hmo _ => ?_)
    rw [← h1 _ v_z] at hl
    refine lv_istore (lv' := [(5, .int (0 : Int32)), (4, .int iv), (3, .ref qo), (2, .ref (q 0)), (1, .ref (lo1 (10, 0, 0))), (0, .ref b)]) hx hb dL_law_2086 hl (by decide) rfl (fun ls hl => ?_)
    refine lv_aload_n hx hb dL_law_2088 rfl (lv_at hl 3 rfl) ?_
    refine lv_aload_n hx hb dL_law_2089 rfl (lv_at hl 5 rfl) ?_
    refine lv_iload hx hb dL_law_2090 (lv_at hl 1 rfl) ?_
    refine lv_iconst (v := (1)) hx hb dL_law_2092 (by decide) ?_
    refine lv_iadd hx hb dL_law_2093 ?_
    refine va_sld hx hb hX hbl hbA hS (hin 1 (by decide) (by decide)) dL_law_2094 ?_
    refine z_callV (As := [.int (xs (iv + 1).toNatClampNeg)]) (rest := []) ⟨hx, hb, hml, hown, hts⟩ (tX10_vanAt l Γ lo1 S q M [zOut Γ qo (vp_updL O 0 (y).toInt64)] h10) (cwV 1 hts gL_law_X10_vanAt rfl rfl rfl (by decide +kernel) ⟨Nat.le_of_ble_eq_true rfl, Nat.le_of_ble_eq_true rfl⟩) (wd_x hW (k := 0) rfl) rfl hKK hW hS rfl hl.1 rfl (Nat.le_of_ble_eq_true rfl) dL_law_2095 ⟨(by show cells + 1 + 0 ≤ 601024; omega), (by show slots + 6 + 0 ≤ 7293034; omega)⟩ (fun H locs hW hS _ _ => ?_)
    refine lv_istore (lv' := [(6, .int r), (5, .int (0 : Int32)), (4, .int iv), (3, .ref qo), (2, .ref (q 0)), (1, .ref (lo1 (10, 0, 0))), (0, .ref b)]) hx hb dL_law_2098 hl (by decide) rfl (fun ls hl => ?_)
    refine lv_aload_n hx hb dL_law_2100 rfl (lv_at hl 4 rfl) ?_
    refine z_callV (As := []) (rest := []) ⟨hx, hb, hml, hown, hts⟩ (tX10_thrown l Γ lo1 S q M1 [zOut Γ qo (vp_updL O 0 (y).toInt64)] (show fX10_thrown M1 = some (M1 0 0) from rfl)) (cwV 0 hts gL_law_X10_thrown rfl rfl rfl (by decide +kernel) ⟨Nat.le_of_ble_eq_true rfl, Nat.le_of_ble_eq_true rfl⟩) (wd_x hW (k := 0) rfl) rfl hKK hW hS rfl hl.1 rfl (Nat.le_of_ble_eq_true rfl) dL_law_2101 ⟨(by show cells + 1 + 0 + 0 ≤ 601024; omega), (by show slots + 6 + 0 + 0 ≤ 7293034; omega)⟩ (fun H locs hW hS _ _ => ?_)
    refine lv_iload hx hb dL_law_2104 (lv_at hl 1 rfl) ?_
    refine lv_icmp_eq (tgt := 2111) hx hb dL_law_2106 (by decide) (fun _ => ?_) (fun k => absurd hth k)
    refine lv_iload hx hb dL_law_2111 (lv_at hl 1 rfl) ?_
    refine lv_if_ne (tgt := 2128) hx hb dL_law_2113 (by decide) (fun k => absurd rfl k) (fun _ => ?_)
    refine lv_aload_n hx hb dL_law_2116 rfl (lv_at hl 3 rfl) ?_
    refine lv_iconst (v := (0)) hx hb dL_law_2117 (by decide) ?_
    refine va_lald hx hb hKK.1 (wd_x hW (k := 47) rfl) 0 1 (n := 1) rfl rfl (by unfold vp_in; decide) dL_law_2118 ?_
    rw [show vp_updL O 0 (y).toInt64 (0 : Int32).toNatClampNeg = (y).toInt64 from rfl, hfv]
    refine lv_iload hx hb dL_law_2119 (lv_at hl 0 rfl) ?_
    refine lv_i2l hx hb dL_law_2121 rfl ?_
    refine W.lcmp hx hb dL_law_2122 ?_
    rw [lg_same]
    refine lv_if_eq (tgt := 2128) hx hb dL_law_2123 (by decide) (fun _ => ?_) (fun k => absurd rfl k)
    refine lv_goto (tgt := 2131) hx hb dL_law_2128 (by decide) ?_
    refine W.widen (k := cells + 12) (n := slots + 2700) (by omega) (by omega) ?_
    exact kk lo1 S M1 (vp_updL O 0 (y).toInt64) H locs ls hT1 hW hS (lv_sub hl [2, 3, 4, 5, 6] rfl)
  · skip
    refine w_call (As := [.ref (lo (10, 0, 0)), .int (xs (iv + 1).toNatClampNeg), .ref qo]) (rest := []) ⟨hx, hb, hml, hown, hts⟩ (uL_vanAt l hl0 Γ lo S (mcl Γ q M) qo O v_z h9 (by simpa using hn)) (vx_cwSW 3 hts gL_law_L_vanAt rfl rfl rfl (by decide +kernel) ⟨Nat.le_of_ble_eq_true rfl, Nat.le_of_ble_eq_true rfl⟩) hKK hKX hKY hKN hW hS rfl hl.1 rfl (Nat.le_of_ble_eq_true rfl) dL_law_2083 ⟨(by show cells + 1 ≤ 601024; omega), (by show slots + 6 ≤ 7293034; omega)⟩ (fun lo1 H locs hW hS h1 hmo _ => ?_)
    rw [← h1 _ v_z] at hl
    refine lv_istore (lv' := [(5, .int (kL [1] ee.1)), (4, .int iv), (3, .ref qo), (2, .ref (q 0)), (1, .ref (lo1 (10, 0, 0))), (0, .ref b)]) hx hb dL_law_2086 hl (by decide) rfl (fun ls hl => ?_)
    refine lv_aload_n hx hb dL_law_2088 rfl (lv_at hl 3 rfl) ?_
    refine lv_aload_n hx hb dL_law_2089 rfl (lv_at hl 5 rfl) ?_
    refine lv_iload hx hb dL_law_2090 (lv_at hl 1 rfl) ?_
    refine lv_iconst (v := (1)) hx hb dL_law_2092 (by decide) ?_
    refine lv_iadd hx hb dL_law_2093 ?_
    refine va_sld hx hb hX hbl hbA hS (hin 1 (by decide) (by decide)) dL_law_2094 ?_
    refine z_callV (As := [.int (xs (iv + 1).toNatClampNeg)]) (rest := []) ⟨hx, hb, hml, hown, hts⟩ (tX10_vanAt l Γ lo1 ee.2 q M [zOut Γ qo O] h10) (cwV 1 hts gL_law_X10_vanAt rfl rfl rfl (by decide +kernel) ⟨Nat.le_of_ble_eq_true rfl, Nat.le_of_ble_eq_true rfl⟩) (wd_x hW (k := 0) rfl) rfl hKK hW hS rfl hl.1 rfl (Nat.le_of_ble_eq_true rfl) dL_law_2095 ⟨(by show cells + 1 + 0 ≤ 601024; omega), (by show slots + 6 + 0 ≤ 7293034; omega)⟩ (fun H locs hW hS _ _ => ?_)
    refine lv_istore (lv' := [(6, .int r), (5, .int (kL [1] ee.1)), (4, .int iv), (3, .ref qo), (2, .ref (q 0)), (1, .ref (lo1 (10, 0, 0))), (0, .ref b)]) hx hb dL_law_2098 hl (by decide) rfl (fun ls hl => ?_)
    refine lv_aload_n hx hb dL_law_2100 rfl (lv_at hl 4 rfl) ?_
    refine z_callV (As := []) (rest := []) ⟨hx, hb, hml, hown, hts⟩ (tX10_thrown l Γ lo1 ee.2 q M1 [zOut Γ qo O] (show fX10_thrown M1 = some (M1 0 0) from rfl)) (cwV 0 hts gL_law_X10_thrown rfl rfl rfl (by decide +kernel) ⟨Nat.le_of_ble_eq_true rfl, Nat.le_of_ble_eq_true rfl⟩) (wd_x hW (k := 0) rfl) rfl hKK hW hS rfl hl.1 rfl (Nat.le_of_ble_eq_true rfl) dL_law_2101 ⟨(by show cells + 1 + 0 + 0 ≤ 601024; omega), (by show slots + 6 + 0 + 0 ≤ 7293034; omega)⟩ (fun H locs hW hS _ _ => ?_)
    refine lv_iload hx hb dL_law_2104 (lv_at hl 1 rfl) ?_
    refine lv_icmp_eq (tgt := 2111) hx hb dL_law_2106 (by decide) (fun _ => ?_) (fun k => absurd hth k)
    refine lv_iload hx hb dL_law_2111 (lv_at hl 1 rfl) ?_
    refine lv_if_ne (tgt := 2128) hx hb dL_law_2113 (by decide) (fun _ => ?_) (fun k => absurd k (kL_ne _ _ hn (Nat.le_of_ble_eq_true rfl)))
    refine lv_goto (tgt := 2131) hx hb dL_law_2128 (by decide) ?_
    refine W.widen (k := cells + 12) (n := slots + 2700) (by omega) (by omega) ?_
    exact kk lo1 ee.2 M1 O H locs ls hT1 hW hS (lv_sub hl [2, 3, 4, 5, 6] rfl)

