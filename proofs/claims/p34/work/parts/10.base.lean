/-! THE NAMED HEAP: objects and arrays of the class by names (kind, i, j); what they hold, as functions of the names; where they lie, a function to addresses. -/
abbrev zId : Type := Nat × Nat × Nat
abbrev zSt : Type := (zId → Nat → Int32) × (zId → Nat → Int64) × (zId → Nat → Option Nat) × (zId → Nat → Nat) × (zId → Bool)
def zI (S : zSt) (c : zId) : Nat → Int32 := S.1 c
def zL (S : zSt) (c : zId) : Nat → Int64 := S.2.1 c
def zQ (S : zSt) (c : zId) : Nat → Option Nat := S.2.2.1 c
def zN (S : zSt) (c : zId) : Nat → Nat := S.2.2.2.1 c
def zV (S : zSt) (c : zId) : Bool := S.2.2.2.2 c
def pI (S : zSt) (c : zId) (k : Nat) (v : Int32) : zSt := (fun d => if d = c then upd (S.1 d) k v else S.1 d, S.2)
def pL (S : zSt) (c : zId) (k : Nat) (v : Int64) : zSt := (S.1, fun d => if d = c then vp_updL (S.2.1 d) k v else S.2.1 d, S.2.2)
def pQ (S : zSt) (c : zId) (k : Nat) (v : Option Nat) : zSt := (S.1, S.2.1, fun d => if d = c then va_up (S.2.2.1 d) k v else S.2.2.1 d, S.2.2.2)
def pN (S : zSt) (c : zId) (k : Nat) (v : Nat) : zSt := (S.1, S.2.1, S.2.2.1, fun d => if d = c then va_up (S.2.2.2.1 d) k v else S.2.2.2.1 d, S.2.2.2.2)
def pV (S : zSt) (c : zId) (b : Bool) : zSt := (S.1, S.2.1, S.2.2.1, S.2.2.2.1, fun d => if d = c then b else S.2.2.2.2 d)
theorem zI_pI (S : zSt) (c d : zId) (k : Nat) (v : Int32) : zI (pI S c k v) d = if d = c then upd (zI S d) k v else zI S d := rfl
theorem zI_pIs (S : zSt) (c : zId) (k : Nat) (v : Int32) : zI (pI S c k v) c = upd (zI S c) k v := if_pos rfl
theorem zI_pIn (S : zSt) {c d : zId} (h : d ≠ c) (k : Nat) (v : Int32) : zI (pI S c k v) d = zI S d := if_neg h
theorem zL_pI (S : zSt) (c d : zId) (k : Nat) (v : Int32) : zL (pI S c k v) d = zL S d := rfl
theorem zQ_pI (S : zSt) (c d : zId) (k : Nat) (v : Int32) : zQ (pI S c k v) d = zQ S d := rfl
theorem zN_pI (S : zSt) (c d : zId) (k : Nat) (v : Int32) : zN (pI S c k v) d = zN S d := rfl
theorem zV_pI (S : zSt) (c d : zId) (k : Nat) (v : Int32) : zV (pI S c k v) d = zV S d := rfl
theorem zL_pL (S : zSt) (c d : zId) (k : Nat) (v : Int64) : zL (pL S c k v) d = if d = c then vp_updL (zL S d) k v else zL S d := rfl
theorem zL_pLs (S : zSt) (c : zId) (k : Nat) (v : Int64) : zL (pL S c k v) c = vp_updL (zL S c) k v := if_pos rfl
theorem zL_pLn (S : zSt) {c d : zId} (h : d ≠ c) (k : Nat) (v : Int64) : zL (pL S c k v) d = zL S d := if_neg h
theorem zI_pL (S : zSt) (c d : zId) (k : Nat) (v : Int64) : zI (pL S c k v) d = zI S d := rfl
theorem zQ_pL (S : zSt) (c d : zId) (k : Nat) (v : Int64) : zQ (pL S c k v) d = zQ S d := rfl
theorem zN_pL (S : zSt) (c d : zId) (k : Nat) (v : Int64) : zN (pL S c k v) d = zN S d := rfl
theorem zV_pL (S : zSt) (c d : zId) (k : Nat) (v : Int64) : zV (pL S c k v) d = zV S d := rfl
theorem zQ_pQs (S : zSt) (c : zId) (k : Nat) (v : Option Nat) : zQ (pQ S c k v) c = va_up (zQ S c) k v := if_pos rfl
theorem zQ_pQn (S : zSt) {c d : zId} (h : d ≠ c) (k : Nat) (v : Option Nat) : zQ (pQ S c k v) d = zQ S d := if_neg h
theorem zQ_pQ (S : zSt) (c d : zId) (k : Nat) (v : Option Nat) : zQ (pQ S c k v) d = if d = c then va_up (zQ S d) k v else zQ S d := rfl
theorem zI_pQ (S : zSt) (c d : zId) (k : Nat) (v : Option Nat) : zI (pQ S c k v) d = zI S d := rfl
theorem zL_pQ (S : zSt) (c d : zId) (k : Nat) (v : Option Nat) : zL (pQ S c k v) d = zL S d := rfl
theorem zN_pQ (S : zSt) (c d : zId) (k : Nat) (v : Option Nat) : zN (pQ S c k v) d = zN S d := rfl
theorem zV_pQ (S : zSt) (c d : zId) (k : Nat) (v : Option Nat) : zV (pQ S c k v) d = zV S d := rfl
theorem zN_pN (S : zSt) (c d : zId) (k : Nat) (v : Nat) : zN (pN S c k v) d = if d = c then va_up (zN S d) k v else zN S d := rfl
theorem zI_pN (S : zSt) (c d : zId) (k : Nat) (v : Nat) : zI (pN S c k v) d = zI S d := rfl
theorem zL_pN (S : zSt) (c d : zId) (k : Nat) (v : Nat) : zL (pN S c k v) d = zL S d := rfl
theorem zQ_pN (S : zSt) (c d : zId) (k : Nat) (v : Nat) : zQ (pN S c k v) d = zQ S d := rfl
theorem zV_pN (S : zSt) (c d : zId) (k : Nat) (v : Nat) : zV (pN S c k v) d = zV S d := rfl
theorem zV_pV (S : zSt) (c d : zId) (b : Bool) : zV (pV S c b) d = if d = c then b else zV S d := rfl
theorem zI_pV (S : zSt) (c d : zId) (b : Bool) : zI (pV S c b) d = zI S d := rfl
theorem zL_pV (S : zSt) (c d : zId) (b : Bool) : zL (pV S c b) d = zL S d := rfl
theorem zQ_pV (S : zSt) (c d : zId) (b : Bool) : zQ (pV S c b) d = zQ S d := rfl
theorem zN_pV (S : zSt) (c d : zId) (b : Bool) : zN (pV S c b) d = zN S d := rfl
/-- what is fixed: the classes' numbers and slots; the array classes (int, long, boolean, Mode, Object); where the law's own heap begins; the empty list's array -/
abbrev zG : Type := va_G × (Nat → ClassId) × Nat × Nat
abbrev zA (Γ : zG) : Nat → Prop := fun q => Γ.2.2.1 ≤ q
/-- the element j of the list i: tables, games, bumpers of the table i - 2 -/
def zEl (i j : Nat) : zId := match i with
  | 0 => (8, j, 0)
  | 1 => (3, j, 0)
  | t + 2 => (2, t, j)
def zE (Γ : zG) (lo : zId → Nat) (i g : Nat) : Value := if g = 0 then .ref Γ.2.2.2 else .ref (lo (23, i, g))
def zRf (lo : zId → Nat) (N : Nat → Nat) (i : Nat) : Nat → Option Nat := fun j => if j < N 1 then some (lo (zEl i j)) else none
/-- what a cell is, by its kind -/
def shp (Γ : zG) (lo : zId → Nat) (c : zId) (I : Nat → Int32) (L : Nat → Int64) (Q : Nat → Option Nat) (N : Nat → Nat) : va_E := match c.1 with
  | 0 => .inr (0, [.int (I 0), zE Γ lo c.2.1 (N 0), .int (I 2)])
  | 1 => .inr (1, [.int (I 0), .int (I 1), .int (I 2), .int (I 3)])
  | 2 => .inr (2, [.int (I 0), .int (I 1), .int (I 2), .int (I 3), .int (I 4), .int (I 5), .int (I 6)])
  | 3 => .inr (3, [.int (I 0), .ref (lo (7, 1, c.2.1)), .ref (lo (6, 0, c.2.1)), .ref (lo (16, c.2.1, 0)), .int (I 4), .int (I 5)])
  | 4 => .inr (4, [.int (I 0), .int (I 1), .int (I 2), .int (I 3), .int (I 4)])
  | 5 => .inr (5, [.ref (lo (17, 0, 0)), .ref (lo (18, 0, 0)), .ref (lo (19, 0, 0)), .int (I 3), .int (I 4)])
  | 6 => .inr (6, [.ref (lo (14, c.2.1, c.2.2)), .ref (lo (15, c.2.1, c.2.2)), .int (I 2), .int (I 3)])
  | 7 => .inr (7, [.ref (lo (12, c.2.1, c.2.2)), .ref (lo (13, c.2.1, c.2.2))])
  | 8 => .inr (8, [.int (I 0), .int (I 1), .ref (lo (0, c.2.1 + 2, 0)), .ref (lo (7, 0, c.2.1)), .int (I 4), .int (I 5), .int (I 6), .int (I 7)])
  | 9 => .inr (9, [.ref (lo (20, c.2.1, 0)), .int (I 1)])
  | 10 => .inr (10, [.ref (lo (0, 0, 0)), .ref (lo (0, 1, 0)), .ref (lo (9, 0, 0)), .ref (lo (9, 1, 0)), .ref (lo (21, 0, 0)), .ref (lo (6, 1, 0)), .ref (lo (5, 0, 0)), .ref (lo (22, 0, 0)), .int (I 8)])
  | 12 => .inl (Γ.2.1 0, 8, .inl I)
  | 13 => .inl (Γ.2.1 3, 4, .inr (.inr (.inr (.inr (fun j => (Q j).map (fun n => lo (4, n, 0)))))))
  | 14 => .inl (Γ.2.1 0, 3, .inl I)
  | 15 => .inl (Γ.2.1 0, 3, .inl I)
  | 16 => .inl (Γ.2.1 1, 2520, .inr (.inl L))
  | 17 => .inl (Γ.2.1 0, 6, .inl I)
  | 18 => .inl (Γ.2.1 0, 6, .inl I)
  | 19 => .inl (Γ.2.1 0, 6, .inl I)
  | 20 => .inl (Γ.2.1 0, 2, .inl I)
  | 21 => .inl (Γ.2.1 2, 60, .inl I)
  | 22 => .inl (Γ.2.1 0, 40, .inl I)
  | 23 => .inl (Γ.2.1 4, N 0, .inr (.inr (.inr (.inr (zRf lo N c.2.1)))))
  | _ => .inr (99, [])
def ct (Γ : zG) (lo : zId → Nat) (S : zSt) (c : zId) : va_E := shp Γ lo c (zI S c) (zL S c) (zQ S c) (zN S c)
/-- what a cell refers to -/
def zTg (S : zSt) (c d : zId) : Prop := match c.1 with
  | 0 => zN S c 0 ≠ 0 ∧ d = (23, c.2.1, zN S c 0)
  | 3 => d = (7, 1, c.2.1) ∨ d = (6, 0, c.2.1) ∨ d = (16, c.2.1, 0)
  | 5 => d = (17, 0, 0) ∨ d = (18, 0, 0) ∨ d = (19, 0, 0)
  | 6 => d = (14, c.2.1, c.2.2) ∨ d = (15, c.2.1, c.2.2)
  | 7 => d = (12, c.2.1, c.2.2) ∨ d = (13, c.2.1, c.2.2)
  | 8 => d = (0, c.2.1 + 2, 0) ∨ d = (7, 0, c.2.1)
  | 9 => d = (20, c.2.1, 0)
  | 10 => d = (0, 0, 0) ∨ d = (0, 1, 0) ∨ d = (9, 0, 0) ∨ d = (9, 1, 0) ∨ d = (21, 0, 0) ∨ d = (6, 1, 0) ∨ d = (5, 0, 0) ∨ d = (22, 0, 0)
  | 13 => ∃ k n : Nat, zQ S c k = some n ∧ d = (4, n, 0)
  | 23 => ∃ j : Nat, j < zN S c 1 ∧ d = zEl c.2.1 j
  | _ => False
def zCl (S : zSt) : Prop := ∀ c d : zId, zV S c = true → zTg S c d → zV S d = true
/-- the world: X, raw cells; the named ones; others that nobody names any more -/
def Wd (Γ : zG) (lo : zId → Nat) (S : zSt) (X : va_W) (H : Heap) : Prop :=
  Γ.2.2.1 ≤ H.size ∧ zCl S ∧ (∀ c d : zId, zV S c = true → zV S d = true → lo c = lo d → c = d) ∧
  ∃ ws : va_W, va_P Γ.1 vwCl (X ++ ws) H ∧ va_D (zA Γ) (X ++ ws) ∧ ∀ c : zId, zV S c = true → (lo c, ct Γ lo S c) ∈ ws
abbrev zTy (Γ : zG) : List (ClassId × FieldType) := [(Γ.2.1 0, .int), (Γ.2.1 1, .long), (Γ.2.1 2, .boolean), (Γ.2.1 3, .object "TiltRoute$Mode"), (Γ.2.1 4, .object "java/lang/Object")]
/-- what holds of the machine's tables and of what was there before -/
def KK (Γ : zG) (U : State) : Prop :=
  va_K Γ.1 vwCl (zTy Γ) U ∧
  va_Z "java/util/ArrayList" "DEFAULTCAPACITY_EMPTY_ELEMENTDATA" "[Ljava/lang/Object;" (.ref Γ.2.2.2) (zA Γ) U U.heap ∧
  va_T (.object "java/lang/Object") Γ.2.2.2 0 (fun _ => .null) (zA Γ) U U.heap ∧
  vx_Zq Bundle.tN "UNASSIGNED_STACK" Bundle.steD (zA Γ) U U.heap ∧ vx_Zq Bundle.tN "SUPPRESSED_SENTINEL" Bundle.listD (zA Γ) U U.heap ∧
  (∃ mi : Nat, va_Mi "[Ljava/lang/Object;" mi U) ∧ va_Dc U
theorem KK.go {Γ : zG} {s U : State} {H : Heap} {locs : List Loc} (h : KK Γ s) (hS : va_S (zA Γ) s.heap H locs) (hU : U.heap = H) (hW : s.WarmedH U.vm) : KK Γ U := by
  obtain ⟨h1, h2, h3, h4, h5, ⟨mi, h6⟩, h7⟩ := h
  have hk : ∀ a : Nat, a < s.heap.size → ¬ zA Γ a → U.heap[a]? = s.heap[a]? := fun a h1 h2 => by rw [hU]; exact hS.2.1 a h1 h2
  exact ⟨h1.moved hW.alike, (h2.moved hW.alike).kept hk, (h3.moved hW.alike).kept hk, (h4.moved hW.alike).kept hk, (h5.moved hW.alike).kept hk, ⟨mi, h6.moved hW.alike⟩, h7.moved hW.alike⟩
theorem KK.blind {Γ : zG} {U : State} (g : JFrame) (mk : MethodId) (a : Array Value) (h : KK Γ U) : KK Γ (U.calling g mk a) := h
/-- one named cell -/
theorem wd_1 {Γ : zG} {lo : zId → Nat} {S : zSt} {X : va_W} {H : Heap} (h : Wd Γ lo S X H) {c : zId} (hv : zV S c = true) : va_P Γ.1 vwCl [(lo c, ct Γ lo S c)] H := by
  obtain ⟨-, -, -, ws, hP, -, hn⟩ := h
  obtain ⟨k, hk⟩ := List.mem_iff_getElem?.mp (hn c hv)
  intro i q hi
  have hi0 : i < 1 := (List.getElem?_eq_some_iff.mp hi).1
  rw [show i = 0 by omega] at hi
  cases hi
  exact hP (X.length + k) _ (by rw [List.getElem?_append_right (by omega), Nat.add_sub_cancel_left]; exact hk)
/-- one raw cell -/
theorem wd_x {Γ : zG} {lo : zId → Nat} {S : zSt} {X : va_W} {H : Heap} (h : Wd Γ lo S X H) {k : Nat} {q : Nat × va_E} (hk : X[k]? = some q) : va_P Γ.1 vwCl [q] H := by
  obtain ⟨-, -, -, ws, hP, -, hn⟩ := h
  have hl : k < X.length := (List.getElem?_eq_some_iff.mp hk).1
  intro i r hi
  have hi0 : i < 1 := (List.getElem?_eq_some_iff.mp hi).1
  rw [show i = 0 by omega] at hi
  cases hi
  exact hP k _ (by rw [List.getElem?_append_left hl]; exact hk)
theorem wd_cl {Γ : zG} {lo : zId → Nat} {S : zSt} {X : va_W} {H : Heap} (h : Wd Γ lo S X H) {c d : zId} (hv : zV S c = true) (ht : zTg S c d) : zV S d = true := h.2.1 c d hv ht
/-- a named cell has changed -/
theorem wd_set {Γ : zG} {lo : zId → Nat} {S S1 : zSt} {X : va_W} {H : Heap} (h : Wd Γ lo S X H) {c : zId} (hv : zV S c = true) (hV : ∀ d, zV S1 d = zV S d) (hC : zCl S1) (ho : ∀ d, d ≠ c → ct Γ lo S1 d = ct Γ lo S d) :
    ∃ (ws : va_W) (k : Nat), ws[k]? = some (lo c, ct Γ lo S c) ∧ va_P Γ.1 vwCl ws H ∧ va_D (zA Γ) ws ∧
      ∀ H1 : Heap, va_P Γ.1 vwCl (ws.set k (lo c, ct Γ lo S1 c)) H1 → va_D (zA Γ) (ws.set k (lo c, ct Γ lo S1 c)) → Wd Γ lo S1 X H1 := by
  obtain ⟨h1, h2, h3, ws, hP, hD, hn⟩ := h
  obtain ⟨k, hk⟩ := List.mem_iff_getElem?.mp (hn c hv)
  have hl : k < ws.length := (List.getElem?_eq_some_iff.mp hk).1
  refine ⟨X ++ ws, X.length + k, by rw [List.getElem?_append_right (by omega), Nat.add_sub_cancel_left]; exact hk, hP, hD, fun H1 hP1 hD1 => ?_⟩
  have e : (X ++ ws).set (X.length + k) (lo c, ct Γ lo S1 c) = X ++ ws.set k (lo c, ct Γ lo S1 c) := by
    rw [List.set_append_right _ _ (by omega), Nat.add_sub_cancel_left]
  rw [e] at hP1 hD1
  have hat : (X ++ ws.set k (lo c, ct Γ lo S1 c))[X.length + k]? = some (lo c, ct Γ lo S1 c) := by
    rw [List.getElem?_append_right (by omega), Nat.add_sub_cancel_left, List.getElem?_set_self hl]
  have hB : Γ.2.2.1 ≤ lo c := hD1.2 _ _ hat
  refine ⟨Nat.le_of_lt (Nat.lt_of_le_of_lt hB (hP1 _ _ hat).lt), hC, fun a b ha hb => h3 a b (by rw [← hV]; exact ha) (by rw [← hV]; exact hb), ws.set k (lo c, ct Γ lo S1 c), hP1, hD1, fun d hd => ?_⟩
  rw [hV] at hd
  by_cases hdc : d = c
  · subst hdc
    exact List.mem_of_getElem? (i := k) (by rw [List.getElem?_set_self hl])
  · rw [ho d hdc]
    obtain ⟨j, hj⟩ := List.mem_iff_getElem?.mp (hn d hd)
    have hjk : k ≠ j := by
      intro e2
      subst e2
      rw [hk] at hj
      exact hdc (h3 d c hd hv (congrArg Prod.fst (Option.some.inj hj)).symm)
    exact List.mem_of_getElem? (i := j) (by rw [List.getElem?_set_ne hjk]; exact hj)
theorem ct_pIs (Γ : zG) (lo : zId → Nat) (S : zSt) (c : zId) (k : Nat) (v : Int32) : ct Γ lo (pI S c k v) c = shp Γ lo c (upd (zI S c) k v) (zL S c) (zQ S c) (zN S c) := by
  unfold ct
  rw [zI_pIs]
  rfl
theorem ct_pIn (Γ : zG) (lo : zId → Nat) (S : zSt) {c d : zId} (h : d ≠ c) (k : Nat) (v : Int32) : ct Γ lo (pI S c k v) d = ct Γ lo S d := by
  unfold ct
  rw [zI_pIn S h]
  rfl
theorem ct_pLs (Γ : zG) (lo : zId → Nat) (S : zSt) (c : zId) (k : Nat) (v : Int64) : ct Γ lo (pL S c k v) c = shp Γ lo c (zI S c) (vp_updL (zL S c) k v) (zQ S c) (zN S c) := by
  unfold ct
  rw [zL_pLs]
  rfl
theorem ct_pLn (Γ : zG) (lo : zId → Nat) (S : zSt) {c d : zId} (h : d ≠ c) (k : Nat) (v : Int64) : ct Γ lo (pL S c k v) d = ct Γ lo S d := by
  unfold ct
  rw [zL_pLn S h]
  rfl
theorem ct_pQs (Γ : zG) (lo : zId → Nat) (S : zSt) (c : zId) (k : Nat) (v : Option Nat) : ct Γ lo (pQ S c k v) c = shp Γ lo c (zI S c) (zL S c) (va_up (zQ S c) k v) (zN S c) := by
  unfold ct
  rw [zQ_pQs]
  rfl
theorem ct_pQn (Γ : zG) (lo : zId → Nat) (S : zSt) {c d : zId} (h : d ≠ c) (k : Nat) (v : Option Nat) : ct Γ lo (pQ S c k v) d = ct Γ lo S d := by
  unfold ct
  rw [zQ_pQn S h]
  rfl
