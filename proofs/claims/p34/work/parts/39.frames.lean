/-! normal forms of small numbers; frames of the tie -/
theorem c2I : (2 : Int32) = nI 2 := by first | rfl | decide
theorem c3I : (3 : Int32) = nI 3 := by first | rfl | decide
theorem c4I : (4 : Int32) = nI 4 := by first | rfl | decide
theorem c6I : (6 : Int32) = nI 6 := by first | rfl | decide
theorem c8I : (8 : Int32) = nI 8 := by first | rfl | decide
theorem c9I : (9 : Int32) = nI 9 := by first | rfl | decide
theorem c10I : (10 : Int32) = nI 10 := by first | rfl | decide
theorem c15I : (15 : Int32) = nI 15 := by first | rfl | decide
theorem c16I : (16 : Int32) = nI 16 := by first | rfl | decide
theorem c20I : (20 : Int32) = nI 20 := by first | rfl | decide
theorem c30I : (30 : Int32) = nI 30 := by first | rfl | decide
theorem c40I : (40 : Int32) = nI 40 := by first | rfl | decide
theorem c48I : (48 : Int32) = nI 48 := by first | rfl | decide
theorem c60I : (60 : Int32) = nI 60 := by first | rfl | decide
theorem c100I : (100 : Int32) = nI 100 := by first | rfl | decide
theorem c120I : (120 : Int32) = nI 120 := by first | rfl | decide
theorem c159I : (159 : Int32) = nI 159 := by first | rfl | decide
theorem c160I : (160 : Int32) = nI 160 := by first | rfl | decide
theorem c239I : (239 : Int32) = nI 239 := by first | rfl | decide
theorem c240I : (240 : Int32) = nI 240 := by first | rfl | decide
theorem c256I : (256 : Int32) = nI 256 := by first | rfl | decide
theorem c300I : (300 : Int32) = nI 300 := by first | rfl | decide
theorem c318I : (318 : Int32) = nI 318 := by first | rfl | decide
theorem c320I : (320 : Int32) = nI 320 := by first | rfl | decide
theorem c720I : (720 : Int32) = nI 720 := by first | rfl | decide
theorem c840I : (840 : Int32) = nI 840 := by first | rfl | decide
theorem c960I : (960 : Int32) = nI 960 := by first | rfl | decide
theorem c2520I : (2520 : Int32) = nI 2520 := by first | rfl | decide
theorem c36000I : (36000 : Int32) = nI 36000 := by first | rfl | decide
theorem c1048576I : (1048576 : Int32) = nI 1048576 := by first | rfl | decide
theorem st_q {α β : Type} (v : α) (k : α → Option β) : st v k = k v := Eq.trans rfl rfl
theorem cl_q {α β : Type} (a : α) (k : α → Option β) : cl (some a) k = k a := Eq.trans rfl rfl
theorem cl2_q {α β σ : Type} (a : α) (s : σ) (k : α → σ → Option β) : cl2 (some (a, s)) k = k a s := Eq.trans rfl rfl
theorem cxr_q {α β : Type} (a : α) (k : α → Option ((Nat × zSt) ⊕ β)) : cx (some (.inr a)) k = k a := Eq.trans rfl rfl
theorem cxl_q {α β : Type} (e : Nat × zSt) (k : α → Option ((Nat × zSt) ⊕ β)) : cx (some (.inl e)) k = some (.inl e) := Eq.trans rfl rfl
theorem nI_z {n : Nat} (h : n < 2 ^ 31) : (nI n = 0) = (n = 0) := by
  rw [← nI_0, nI_eq h (by omega)]
theorem nI_lz {n : Nat} (h : n < 2 ^ 31) : (nI n < 0) = False := eq_false (nI_pos h)
theorem nI_lez {n : Nat} (h : n < 2 ^ 31) : (nI n ≤ 0) = (n = 0) := by
  rw [← nI_0, nI_leI h (by omega)]
  exact propext (by omega)
theorem nI_gez {n : Nat} (h : n < 2 ^ 31) : (0 ≤ nI n) = True := eq_true (nI_pos' h)
theorem nI_gtz {n : Nat} (h : n < 2 ^ 31) : (0 < nI n) = (0 < n) := by
  rw [← nI_0, nI_ltI (by omega) h]
theorem nI_m {n : Nat} (h : n < 2 ^ 31) : (nI n = -1) = False := eq_false (fun e => by
  have : nI n < 0 := by rw [e]; decide
  exact nI_pos h this)
theorem nI_m2 {n : Nat} (h : n < 2 ^ 31) : (-1 = nI n) = False := eq_false (fun e => of_eq_false (nI_m h) e.symm)
theorem nI_lem {n : Nat} (h : n < 2 ^ 31) : (nI n ≤ -1) = False := eq_false (fun e => by
  have : nI n < 0 := Int32.lt_of_le_of_lt e (by decide)
  exact nI_pos h this)
theorem nI_ltm {n : Nat} (h : n < 2 ^ 31) : (nI n < -1) = False := eq_false (fun e => by
  have : nI n < 0 := Int32.lt_trans e (by decide)
  exact nI_pos h this)
theorem nI_pred1 {n : Nat} (h : 0 < n) : nI n - 1 = nI (n - 1) := by
  obtain ⟨m, rfl⟩ : ∃ m, n = m + 1 := ⟨n - 1, by omega⟩
  exact nI_pred m
theorem nI_pm1 {n : Nat} (h : 0 < n) : nI n + (-1) = nI (n - 1) := by
  obtain ⟨m, rfl⟩ : ∃ m, n = m + 1 := ⟨n - 1, by omega⟩
  exact pk_m1 m
theorem nleF {N n : Nat} (h : n < N) : (N ≤ n) = False := eq_false (by omega)
theorem leT {a b : Nat} (h : a ≤ b) : (a ≤ b) = True := eq_true h
theorem ltT {a b : Nat} (h : a < b) : (a < b) = True := eq_true h
theorem ltF {a b : Nat} (h : b ≤ a) : (a < b) = False := eq_false (by omega)
theorem eqT {a b : Nat} (h : a = b) : (a = b) = True := eq_true h
theorem eqF {a b : Nat} (h : a ≠ b) : (a = b) = False := eq_false h
theorem pMn {M : zMs} {k k1 : Nat} (h : k1 ≠ k) (i : Nat) (v : Int32) : pM M k i v k1 = M k1 := by
  unfold pM
  rw [if_neg h]
theorem pMi {M : zMs} {i i1 : Nat} (h : i1 ≠ i) (k k1 : Nat) (v : Int32) : pM M k i v k1 i1 = M k1 i1 := by
  rw [pM_at, if_neg (fun q => h q.2)]
/-- the cell that a row's number is read from -/
def rC (k i : Nat) : zId := match k with
  | 1 => (0, 0, 0)
  | 2 => (8, i, 0)
  | 3 => (8, i, 0)
  | 4 => (8, i, 0)
  | 5 => (8, i, 0)
  | 6 => (8, i, 0)
  | 7 => (8, i, 0)
  | 8 => (0, i + 2, 0)
  | 9 => (2, i / 8, i % 8)
  | 10 => (2, i / 8, i % 8)
  | 11 => (2, i / 8, i % 8)
  | 12 => (2, i / 8, i % 8)
  | 13 => (2, i / 8, i % 8)
  | 14 => (12, 0, i / 8)
  | 15 => (2, i / 8, i % 8)
  | 16 => (2, i / 8, i % 8)
  | 17 => (13, 0, i / 4)
  | 18 => (13, 0, i / 4)
  | 19 => (13, 0, i / 4)
  | 20 => (13, 0, i / 4)
  | 21 => (13, 0, i / 4)
  | 22 => (10, 0, 0)
  | 23 => (21, 0, 0)
  | 24 => (0, 1, 0)
  | 25 => (3, i, 0)
  | 26 => (3, i, 0)
  | 27 => (6, 0, i)
  | 28 => (12, 1, i / 8)
  | 29 => (13, 1, i / 4)
  | 30 => (13, 1, i / 4)
  | 31 => (13, 1, i / 4)
  | 32 => (13, 1, i / 4)
  | 33 => (13, 1, i / 4)
  | 34 => (6, 0, i)
  | 35 => (14, 0, i / 3)
  | 36 => (15, 0, i / 3)
  | 49 => (9, i, 0)
  | 50 => (20, i / 2, 0)
  | _ => (0, 0, 0)
section PF
variable {S S1 S2 : zSt} {M M1 : zMs}
theorem vS_eq (k i : Nat) (hc : zI S1 (rC k i) = zI S (rC k i)) (hq : zQ S1 (rC k i) = zQ S (rC k i)) (h4 : ∀ j n, zQ S (rC k i) j = some n → (rC k i).1 = 13 → zI S1 (4, n, 0) = zI S (4, n, 0)) : vS S1 k i = vS S k i := by
  match k with
  | 0 => rfl
  | 1 => exact congrFun hc _
  | 2 => exact congrFun hc _
  | 3 => exact congrFun hc _
  | 4 => exact congrFun hc _
  | 5 => exact congrFun hc _
  | 6 => exact congrFun hc _
  | 7 => exact congrFun hc _
  | 8 => exact congrFun hc _
  | 9 => exact congrFun hc _
  | 10 => exact congrFun hc _
  | 11 => exact congrFun hc _
  | 12 => exact congrFun hc _
  | 13 => exact congrFun hc _
  | 14 => exact congrFun hc _
  | 15 => exact congrFun hc _
  | 16 => exact congrFun hc _
  | 17 => exact vMd_eq (c := (13, 0, i / 4)) hq (fun n hn => h4 (i % 4) n hn rfl)
  | 18 => exact vMd_eq (c := (13, 0, i / 4)) hq (fun n hn => h4 (i % 4) n hn rfl)
  | 19 => exact vMd_eq (c := (13, 0, i / 4)) hq (fun n hn => h4 (i % 4) n hn rfl)
  | 20 => exact vMd_eq (c := (13, 0, i / 4)) hq (fun n hn => h4 (i % 4) n hn rfl)
  | 21 => exact vMd_eq (c := (13, 0, i / 4)) hq (fun n hn => h4 (i % 4) n hn rfl)
  | 22 => exact congrFun hc _
  | 23 => exact congrFun hc _
  | 24 => exact congrFun hc _
  | 25 => exact congrFun hc _
  | 26 => exact congrArg (fun f : Nat → Int32 => 3 - f 5) hc
  | 27 => exact congrFun hc _
  | 28 => exact congrFun hc _
  | 29 => exact vMd_eq (c := (13, 1, i / 4)) hq (fun n hn => h4 (i % 4) n hn rfl)
  | 30 => exact vMd_eq (c := (13, 1, i / 4)) hq (fun n hn => h4 (i % 4) n hn rfl)
  | 31 => exact vMd_eq (c := (13, 1, i / 4)) hq (fun n hn => h4 (i % 4) n hn rfl)
  | 32 => exact vMd_eq (c := (13, 1, i / 4)) hq (fun n hn => h4 (i % 4) n hn rfl)
  | 33 => exact vMd_eq (c := (13, 1, i / 4)) hq (fun n hn => h4 (i % 4) n hn rfl)
  | 34 => exact congrFun hc _
  | 35 => exact congrFun hc _
  | 36 => exact congrFun hc _
  | 37 => rfl
  | 38 => rfl
  | 39 => rfl
  | 40 => rfl
  | 41 => rfl
  | 42 => rfl
  | 43 => rfl
  | 44 => rfl
  | 45 => rfl
  | 46 => rfl
  | 47 => rfl
  | 48 => rfl
  | 49 => exact congrFun hc _
  | 50 => exact congrFun hc _
  | n + 51 => rfl
/-- cells that no row is read from -/
def hidC (c : zId) : Prop := c.1 = 1 ∨ c.1 = 5 ∨ c.1 = 17 ∨ c.1 = 18 ∨ c.1 = 19 ∨ c.1 = 22 ∨ ((c.1 = 6 ∨ c.1 = 14 ∨ c.1 = 15) ∧ c.2.1 = 1)
def eqH (S S1 : zSt) : Prop := (∀ c, ¬ hidC c → zI S1 c = zI S c) ∧ (∀ c, zL S1 c = zL S c) ∧ (∀ c, zQ S1 c = zQ S c) ∧ (∀ c, zN S1 c = zN S c) ∧ (∀ c, zV S1 c = zV S c)
def visR (k : Nat) : Prop := (0 < k ∧ k < 40) ∨ k = 49 ∨ k = 50
def eqM (M M1 : zMs) : Prop := ∀ k, visR k → M1 k = M k
theorem eqM_r (M : zMs) : eqM M M := fun _ _ => rfl
theorem eqM_t {M M1 M2 : zMs} (h : eqM M M1) (h1 : eqM M1 M2) : eqM M M2 := fun k hk => (h1 k hk).trans (h k hk)
theorem eqM_p {k : Nat} (hk : ¬ visR k) (i : Nat) (v : Int32) : eqM M (pM M k i v) := fun k1 h1 => pMn (fun e => hk (by rw [← e]; exact h1)) i v
theorem eqM_ref (w : Int32) : eqM M (pM M 0 0 w) := eqM_p (by unfold visR; omega) 0 w
theorem eqH_r (S : zSt) : eqH S S := ⟨fun _ _ => rfl, fun _ => rfl, fun _ => rfl, fun _ => rfl, fun _ => rfl⟩
theorem eqH_t (h : eqH S S1) (h1 : eqH S1 S2) : eqH S S2 := ⟨fun c hc => (h1.1 c hc).trans (h.1 c hc), fun c => (h1.2.1 c).trans (h.2.1 c), fun c => (h1.2.2.1 c).trans (h.2.2.1 c), fun c => (h1.2.2.2.1 c).trans (h.2.2.2.1 c), fun c => (h1.2.2.2.2 c).trans (h.2.2.2.2 c)⟩
theorem eqH_p {c : zId} (hc : hidC c) (k : Nat) (v : Int32) : eqH S (pI S c k v) := ⟨fun d hd => zI_pIn S (fun e => hd (by rw [e]; exact hc)) k v, fun _ => rfl, fun _ => rfl, fun _ => rfl, fun _ => rfl⟩
theorem rC_nh (k i : Nat) : ¬ hidC (rC k i) := by
  match k with
  | 0 => simp [rC, hidC]
  | 1 => simp [rC, hidC]
  | 2 => simp [rC, hidC]
  | 3 => simp [rC, hidC]
  | 4 => simp [rC, hidC]
  | 5 => simp [rC, hidC]
  | 6 => simp [rC, hidC]
  | 7 => simp [rC, hidC]
  | 8 => simp [rC, hidC]
  | 9 => simp [rC, hidC]
  | 10 => simp [rC, hidC]
  | 11 => simp [rC, hidC]
  | 12 => simp [rC, hidC]
  | 13 => simp [rC, hidC]
  | 14 => simp [rC, hidC]
  | 15 => simp [rC, hidC]
  | 16 => simp [rC, hidC]
  | 17 => simp [rC, hidC]
  | 18 => simp [rC, hidC]
  | 19 => simp [rC, hidC]
  | 20 => simp [rC, hidC]
  | 21 => simp [rC, hidC]
  | 22 => simp [rC, hidC]
  | 23 => simp [rC, hidC]
  | 24 => simp [rC, hidC]
  | 25 => simp [rC, hidC]
  | 26 => simp [rC, hidC]
  | 27 => simp [rC, hidC]
  | 28 => simp [rC, hidC]
  | 29 => simp [rC, hidC]
  | 30 => simp [rC, hidC]
  | 31 => simp [rC, hidC]
  | 32 => simp [rC, hidC]
  | 33 => simp [rC, hidC]
  | 34 => simp [rC, hidC]
  | 35 => simp [rC, hidC]
  | 36 => simp [rC, hidC]
  | 37 => simp [rC, hidC]
  | 38 => simp [rC, hidC]
  | 39 => simp [rC, hidC]
  | 40 => simp [rC, hidC]
  | 41 => simp [rC, hidC]
  | 42 => simp [rC, hidC]
  | 43 => simp [rC, hidC]
  | 44 => simp [rC, hidC]
  | 45 => simp [rC, hidC]
  | 46 => simp [rC, hidC]
  | 47 => simp [rC, hidC]
  | 48 => simp [rC, hidC]
  | 49 => simp [rC, hidC]
  | 50 => simp [rC, hidC]
  | n + 51 => simp [rC, hidC]
theorem wm_eqM (hm : eqM M M1) : WM M1 = WM M := by
  have q1 : M1 1 = M 1 := hm 1 (by unfold visR; omega)
  have q2 : M1 2 = M 2 := hm 2 (by unfold visR; omega)
  have q3 : M1 3 = M 3 := hm 3 (by unfold visR; omega)
  have q4 : M1 4 = M 4 := hm 4 (by unfold visR; omega)
  have q5 : M1 5 = M 5 := hm 5 (by unfold visR; omega)
  have q6 : M1 6 = M 6 := hm 6 (by unfold visR; omega)
  have q7 : M1 7 = M 7 := hm 7 (by unfold visR; omega)
  have q8 : M1 8 = M 8 := hm 8 (by unfold visR; omega)
  have q9 : M1 9 = M 9 := hm 9 (by unfold visR; omega)
  have q10 : M1 10 = M 10 := hm 10 (by unfold visR; omega)
  have q11 : M1 11 = M 11 := hm 11 (by unfold visR; omega)
  have q12 : M1 12 = M 12 := hm 12 (by unfold visR; omega)
  have q13 : M1 13 = M 13 := hm 13 (by unfold visR; omega)
  have q14 : M1 14 = M 14 := hm 14 (by unfold visR; omega)
  have q15 : M1 15 = M 15 := hm 15 (by unfold visR; omega)
  have q16 : M1 16 = M 16 := hm 16 (by unfold visR; omega)
  have q17 : M1 17 = M 17 := hm 17 (by unfold visR; omega)
  have q18 : M1 18 = M 18 := hm 18 (by unfold visR; omega)
  have q19 : M1 19 = M 19 := hm 19 (by unfold visR; omega)
  have q20 : M1 20 = M 20 := hm 20 (by unfold visR; omega)
  have q21 : M1 21 = M 21 := hm 21 (by unfold visR; omega)
  have q22 : M1 22 = M 22 := hm 22 (by unfold visR; omega)
  have q23 : M1 23 = M 23 := hm 23 (by unfold visR; omega)
  have q24 : M1 24 = M 24 := hm 24 (by unfold visR; omega)
  have q25 : M1 25 = M 25 := hm 25 (by unfold visR; omega)
  have q26 : M1 26 = M 26 := hm 26 (by unfold visR; omega)
  have q27 : M1 27 = M 27 := hm 27 (by unfold visR; omega)
  have q28 : M1 28 = M 28 := hm 28 (by unfold visR; omega)
  have q29 : M1 29 = M 29 := hm 29 (by unfold visR; omega)
  have q30 : M1 30 = M 30 := hm 30 (by unfold visR; omega)
  have q31 : M1 31 = M 31 := hm 31 (by unfold visR; omega)
  have q32 : M1 32 = M 32 := hm 32 (by unfold visR; omega)
  have q33 : M1 33 = M 33 := hm 33 (by unfold visR; omega)
  have q34 : M1 34 = M 34 := hm 34 (by unfold visR; omega)
  have q35 : M1 35 = M 35 := hm 35 (by unfold visR; omega)
  have q36 : M1 36 = M 36 := hm 36 (by unfold visR; omega)
  have q37 : M1 37 = M 37 := hm 37 (by unfold visR; omega)
  have q38 : M1 38 = M 38 := hm 38 (by unfold visR; omega)
  have q39 : M1 39 = M 39 := hm 39 (by unfold visR; omega)
  have q49 : M1 49 = M 49 := hm 49 (by unfold visR; omega)
  have q50 : M1 50 = M 50 := hm 50 (by unfold visR; omega)
  unfold WM gmOk nT nG nS nB nD nL
  simp only [q1, q2, q3, q4, q5, q6, q7, q8, q9, q10, q11, q12, q13, q14, q15, q16, q17, q18, q19, q20, q21, q22, q23, q24, q25, q26, q27, q28, q29, q30, q31, q32, q33, q34, q35, q36, q37, q38, q39, q49, q50]
theorem dom_eqM (hm : eqM M M1) : dom M1 = dom M := by
  have q1 : M1 1 = M 1 := hm 1 (by unfold visR; omega)
  have q2 : M1 2 = M 2 := hm 2 (by unfold visR; omega)
  have q3 : M1 3 = M 3 := hm 3 (by unfold visR; omega)
  have q4 : M1 4 = M 4 := hm 4 (by unfold visR; omega)
  have q5 : M1 5 = M 5 := hm 5 (by unfold visR; omega)
  have q6 : M1 6 = M 6 := hm 6 (by unfold visR; omega)
  have q7 : M1 7 = M 7 := hm 7 (by unfold visR; omega)
  have q8 : M1 8 = M 8 := hm 8 (by unfold visR; omega)
  have q9 : M1 9 = M 9 := hm 9 (by unfold visR; omega)
  have q10 : M1 10 = M 10 := hm 10 (by unfold visR; omega)
  have q11 : M1 11 = M 11 := hm 11 (by unfold visR; omega)
  have q12 : M1 12 = M 12 := hm 12 (by unfold visR; omega)
  have q13 : M1 13 = M 13 := hm 13 (by unfold visR; omega)
  have q14 : M1 14 = M 14 := hm 14 (by unfold visR; omega)
  have q15 : M1 15 = M 15 := hm 15 (by unfold visR; omega)
  have q16 : M1 16 = M 16 := hm 16 (by unfold visR; omega)
  have q17 : M1 17 = M 17 := hm 17 (by unfold visR; omega)
  have q18 : M1 18 = M 18 := hm 18 (by unfold visR; omega)
  have q19 : M1 19 = M 19 := hm 19 (by unfold visR; omega)
  have q20 : M1 20 = M 20 := hm 20 (by unfold visR; omega)
  have q21 : M1 21 = M 21 := hm 21 (by unfold visR; omega)
  have q22 : M1 22 = M 22 := hm 22 (by unfold visR; omega)
  have q23 : M1 23 = M 23 := hm 23 (by unfold visR; omega)
  have q24 : M1 24 = M 24 := hm 24 (by unfold visR; omega)
  have q25 : M1 25 = M 25 := hm 25 (by unfold visR; omega)
  have q26 : M1 26 = M 26 := hm 26 (by unfold visR; omega)
  have q27 : M1 27 = M 27 := hm 27 (by unfold visR; omega)
  have q28 : M1 28 = M 28 := hm 28 (by unfold visR; omega)
  have q29 : M1 29 = M 29 := hm 29 (by unfold visR; omega)
  have q30 : M1 30 = M 30 := hm 30 (by unfold visR; omega)
  have q31 : M1 31 = M 31 := hm 31 (by unfold visR; omega)
  have q32 : M1 32 = M 32 := hm 32 (by unfold visR; omega)
  have q33 : M1 33 = M 33 := hm 33 (by unfold visR; omega)
  have q34 : M1 34 = M 34 := hm 34 (by unfold visR; omega)
  have q35 : M1 35 = M 35 := hm 35 (by unfold visR; omega)
  have q36 : M1 36 = M 36 := hm 36 (by unfold visR; omega)
  have q37 : M1 37 = M 37 := hm 37 (by unfold visR; omega)
  have q38 : M1 38 = M 38 := hm 38 (by unfold visR; omega)
  have q39 : M1 39 = M 39 := hm 39 (by unfold visR; omega)
  have q49 : M1 49 = M 49 := hm 49 (by unfold visR; omega)
  have q50 : M1 50 = M 50 := hm 50 (by unfold visR; omega)
  funext k i
  unfold dom nT nB nG nD
  simp only [q1, q8, q17, q24, q29, q34]
theorem ents_eq (q26 : M1 26 = M 26) (q37 : M1 37 = M 37) (q38 : M1 38 = M 38) (q39 : M1 39 = M 39) (g : Nat) : ents M1 g = ents M g := by
  unfold ents entB entS pt nL
  simp only [q26, q37, q38, q39]
theorem tie_hid (h : Tie S M) (hs : eqH S S1) (hm : eqM M M1) : Tie S1 M1 := by
  have z : ∀ c : zId, c.1 = 0 ∨ c.1 = 3 → zI S1 c = zI S c := fun c hc => hs.1 c (by unfold hidC; omega)
  have q1 : M1 1 = M 1 := hm 1 (by unfold visR; omega)
  have q8 : M1 8 = M 8 := hm 8 (by unfold visR; omega)
  have q24 : M1 24 = M 24 := hm 24 (by unfold visR; omega)
  have z0 : ∀ a b, zI S1 (0, a, b) = zI S (0, a, b) := fun a b => z _ (Or.inl rfl)
  have z3 : ∀ a b, zI S1 (3, a, b) = zI S (3, a, b) := fun a b => z _ (Or.inr rfl)
  refine ⟨by rw [wm_eqM hm]; exact h.1, fun k i hd => ?_, ?_, ?_⟩
  · rw [dom_eqM hm] at hd
    rw [vS_eq k i (hs.1 _ (rC_nh k i)) (hs.2.2.1 _) (fun j n _ _ => hs.1 _ (by simp [hidC])), h.2.1 k i hd]
    refine (congrFun (hm k ?_) i).symm
    by_cases hv : visR k
    · exact hv
    · exfalso
      revert hd
      unfold visR at hv
      match k with
      | 0 => exact fun q => q
      | 1 => exact fun _ => hv (by omega)
      | 2 => exact fun _ => hv (by omega)
      | 3 => exact fun _ => hv (by omega)
      | 4 => exact fun _ => hv (by omega)
      | 5 => exact fun _ => hv (by omega)
      | 6 => exact fun _ => hv (by omega)
      | 7 => exact fun _ => hv (by omega)
      | 8 => exact fun _ => hv (by omega)
      | 9 => exact fun _ => hv (by omega)
      | 10 => exact fun _ => hv (by omega)
      | 11 => exact fun _ => hv (by omega)
      | 12 => exact fun _ => hv (by omega)
      | 13 => exact fun _ => hv (by omega)
      | 14 => exact fun _ => hv (by omega)
      | 15 => exact fun _ => hv (by omega)
      | 16 => exact fun _ => hv (by omega)
      | 17 => exact fun _ => hv (by omega)
      | 18 => exact fun _ => hv (by omega)
      | 19 => exact fun _ => hv (by omega)
      | 20 => exact fun _ => hv (by omega)
      | 21 => exact fun _ => hv (by omega)
      | 22 => exact fun _ => hv (by omega)
      | 23 => exact fun _ => hv (by omega)
      | 24 => exact fun _ => hv (by omega)
      | 25 => exact fun _ => hv (by omega)
      | 26 => exact fun _ => hv (by omega)
      | 27 => exact fun _ => hv (by omega)
      | 28 => exact fun _ => hv (by omega)
      | 29 => exact fun _ => hv (by omega)
      | 30 => exact fun _ => hv (by omega)
      | 31 => exact fun _ => hv (by omega)
      | 32 => exact fun _ => hv (by omega)
      | 33 => exact fun _ => hv (by omega)
      | 34 => exact fun _ => hv (by omega)
      | 35 => exact fun _ => hv (by omega)
      | 36 => exact fun _ => hv (by omega)
      | 37 => exact fun _ => hv (by omega)
      | 38 => exact fun _ => hv (by omega)
      | 39 => exact fun _ => hv (by omega)
      | 40 => exact fun q => q
      | 41 => exact fun q => q
      | 42 => exact fun q => q
      | 43 => exact fun q => q
      | 44 => exact fun q => q
      | 45 => exact fun q => q
      | 46 => exact fun q => q
      | 47 => exact fun q => q
      | 48 => exact fun q => q
      | 49 => exact fun _ => hv (by omega)
      | 50 => exact fun _ => hv (by omega)
      | n + 51 => exact fun q => q
  · have e : NV S1 M1 = NV S M := by
      unfold NV zLs nT nG nB
      simp only [z0, q1, q8, q24, hs.2.2.1, hs.2.2.2.1, hs.2.2.2.2]
    rw [e]
    exact h.2.2.1
  · have e : LG S1 M1 = LG S M := by
      unfold LG nG
      simp only [z3, q24, hs.2.1, ents_eq (hm 26 (by unfold visR; omega)) (hm 37 (by unfold visR; omega)) (hm 38 (by unfold visR; omega)) (hm 39 (by unfold visR; omega))]
    rw [e]
    exact h.2.2.2
end PF
