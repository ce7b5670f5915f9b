/-! MAKING: a new cell comes as a raw one, ahead of the others; when it is whole it gets a name -/
def zNest : List (String × Nat × MethodName) := [("TiltRoute$Table", 20, yX6_init), ("TiltRoute$Game", 11, yX5_init), ("TiltRoute", 21, yX8_init), ("TiltRoute", 35, yX5_init), ("TiltRoute", 42, yX4_init)]
def KY (U : State) : Prop := va_AO "TiltRoute$Mode" U ∧ (va_AO "java/lang/Object" U ∧ ∀ C ∈ (["TiltRoute$Bumper", "TiltRoute$Game", "TiltRoute$Table"] : List String), va_Nw (.castable C "java/lang/Object") U) ∧ ∀ z ∈ zNest, va_Nw (.methodLinkNest z.1 z.2.1 z.2.2 "TiltRoute") U
theorem KY.go {s U : State} (h : KY s) (hW : s.WarmedH U.vm) : KY U := ⟨h.1.moved hW.alike, ⟨h.2.1.1.moved hW.alike, fun C hC => (h.2.1.2 C hC).warmC hW⟩, fun z hz => (h.2.2 z hz).warmM hW⟩
def zP2 (Γ : zG) (lo : zId → Nat) (S : zSt) (X : va_W) (av : List Value) : Array Value → State → Prop := fun v U => v = av.toArray ∧ Wd Γ lo S X U.heap ∧ KK Γ U ∧ KY U
/-- all data of a name at once, and the name stands -/
def nw (S : zSt) (c : zId) (I : Nat → Int32) (L : Nat → Int64) (Q : Nat → Option Nat) (N : Nat → Nat) : zSt :=
  (fun d => if d = c then I else S.1 d, fun d => if d = c then L else S.2.1 d, fun d => if d = c then Q else S.2.2.1 d, fun d => if d = c then N else S.2.2.2.1 d, fun d => if d = c then true else S.2.2.2.2 d)
theorem zI_nw (S : zSt) (c d : zId) (I : Nat → Int32) (L : Nat → Int64) (Q : Nat → Option Nat) (N : Nat → Nat) : zI (nw S c I L Q N) d = if d = c then I else zI S d := rfl
theorem zL_nw (S : zSt) (c d : zId) (I : Nat → Int32) (L : Nat → Int64) (Q : Nat → Option Nat) (N : Nat → Nat) : zL (nw S c I L Q N) d = if d = c then L else zL S d := rfl
theorem zQ_nw (S : zSt) (c d : zId) (I : Nat → Int32) (L : Nat → Int64) (Q : Nat → Option Nat) (N : Nat → Nat) : zQ (nw S c I L Q N) d = if d = c then Q else zQ S d := rfl
theorem zN_nw (S : zSt) (c d : zId) (I : Nat → Int32) (L : Nat → Int64) (Q : Nat → Option Nat) (N : Nat → Nat) : zN (nw S c I L Q N) d = if d = c then N else zN S d := rfl
theorem zV_nw (S : zSt) (c d : zId) (I : Nat → Int32) (L : Nat → Int64) (Q : Nat → Option Nat) (N : Nat → Nat) : zV (nw S c I L Q N) d = if d = c then true else zV S d := rfl
theorem zV_nws (S : zSt) (c : zId) (I : Nat → Int32) (L : Nat → Int64) (Q : Nat → Option Nat) (N : Nat → Nat) : zV (nw S c I L Q N) c = true := if_pos rfl
theorem zV_nwm (S : zSt) (c : zId) (I : Nat → Int32) (L : Nat → Int64) (Q : Nat → Option Nat) (N : Nat → Nat) (d : zId) (h : zV S d = true) : zV (nw S c I L Q N) d = true := by
  rw [zV_nw]
  by_cases e : d = c
  · rw [if_pos e]
  · rw [if_neg e]; exact h
def lu (lo : zId → Nat) (c : zId) (q : Nat) : zId → Nat := fun d => if d = c then q else lo d
theorem lu_s (lo : zId → Nat) (c : zId) (q : Nat) : lu lo c q c = q := if_pos rfl
theorem lu_n (lo : zId → Nat) {c d : zId} (q : Nat) (h : d ≠ c) : lu lo c q d = lo d := if_neg h
/-- what a cell is depends on where its own targets lie -/
theorem ct_lo (Γ : zG) (lo lo1 : zId → Nat) (S : zSt) (c : zId) (h : ∀ d, zTg S c d → lo1 d = lo d) : ct Γ lo1 S c = ct Γ lo S c := by
  obtain ⟨k, i, j⟩ := c
  match k, h with
  | 0, h =>
    show (.inr (0, [.int (zI S (0, i, j) 0), zE Γ lo1 i (zN S (0, i, j) 0), .int (zI S (0, i, j) 2)]) : va_E) = .inr (0, [.int (zI S (0, i, j) 0), zE Γ lo i (zN S (0, i, j) 0), .int (zI S (0, i, j) 2)])
    unfold zE
    by_cases hg : zN S (0, i, j) 0 = 0
    · rw [if_pos hg, if_pos hg]
    · rw [if_neg hg, if_neg hg, h (23, i, zN S (0, i, j) 0) ⟨hg, rfl⟩]
  | 1, _ => rfl
  | 2, _ => rfl
  | 3, h =>
    show (.inr (3, [.int (zI S (3, i, j) 0), .ref (lo1 (7, 1, i)), .ref (lo1 (6, 0, i)), .ref (lo1 (16, i, 0)), .int (zI S (3, i, j) 4), .int (zI S (3, i, j) 5)]) : va_E) = _
    rw [h (7, 1, i) (Or.inl rfl), h (6, 0, i) (Or.inr (Or.inl rfl)), h (16, i, 0) (Or.inr (Or.inr rfl))]
    rfl
  | 4, _ => rfl
  | 5, h =>
    show (.inr (5, [.ref (lo1 (17, 0, 0)), .ref (lo1 (18, 0, 0)), .ref (lo1 (19, 0, 0)), .int (zI S (5, i, j) 3), .int (zI S (5, i, j) 4)]) : va_E) = _
    rw [h (17, 0, 0) (Or.inl rfl), h (18, 0, 0) (Or.inr (Or.inl rfl)), h (19, 0, 0) (Or.inr (Or.inr rfl))]
    rfl
  | 6, h =>
    show (.inr (6, [.ref (lo1 (14, i, j)), .ref (lo1 (15, i, j)), .int (zI S (6, i, j) 2), .int (zI S (6, i, j) 3)]) : va_E) = _
    rw [h (14, i, j) (Or.inl rfl), h (15, i, j) (Or.inr rfl)]
    rfl
  | 7, h =>
    show (.inr (7, [.ref (lo1 (12, i, j)), .ref (lo1 (13, i, j))]) : va_E) = _
    rw [h (12, i, j) (Or.inl rfl), h (13, i, j) (Or.inr rfl)]
    rfl
  | 8, h =>
    show (.inr (8, [.int (zI S (8, i, j) 0), .int (zI S (8, i, j) 1), .ref (lo1 (0, i + 2, 0)), .ref (lo1 (7, 0, i)), .int (zI S (8, i, j) 4), .int (zI S (8, i, j) 5), .int (zI S (8, i, j) 6), .int (zI S (8, i, j) 7)]) : va_E) = _
    rw [h (0, i + 2, 0) (Or.inl rfl), h (7, 0, i) (Or.inr rfl)]
    rfl
  | 9, h =>
    show (.inr (9, [.ref (lo1 (20, i, 0)), .int (zI S (9, i, j) 1)]) : va_E) = _
    rw [h (20, i, 0) rfl]
    rfl
  | 10, h =>
    show (.inr (10, [.ref (lo1 (0, 0, 0)), .ref (lo1 (0, 1, 0)), .ref (lo1 (9, 0, 0)), .ref (lo1 (9, 1, 0)), .ref (lo1 (21, 0, 0)), .ref (lo1 (6, 1, 0)), .ref (lo1 (5, 0, 0)), .ref (lo1 (22, 0, 0)), .int (zI S (10, i, j) 8)]) : va_E) = _
    rw [h (0, 0, 0) (Or.inl rfl), h (0, 1, 0) (Or.inr (Or.inl rfl)), h (9, 0, 0) (Or.inr (Or.inr (Or.inl rfl))), h (9, 1, 0) (Or.inr (Or.inr (Or.inr (Or.inl rfl)))), h (21, 0, 0) (Or.inr (Or.inr (Or.inr (Or.inr (Or.inl rfl))))), h (6, 1, 0) (Or.inr (Or.inr (Or.inr (Or.inr (Or.inr (Or.inl rfl)))))), h (5, 0, 0) (Or.inr (Or.inr (Or.inr (Or.inr (Or.inr (Or.inr (Or.inl rfl))))))), h (22, 0, 0) (Or.inr (Or.inr (Or.inr (Or.inr (Or.inr (Or.inr (Or.inr rfl)))))))]
    rfl
  | 11, _ => rfl
  | 12, _ => rfl
  | 13, h =>
    show (.inl (Γ.2.1 3, 4, .inr (.inr (.inr (.inr (fun a => (zQ S (13, i, j) a).map (fun n => lo1 (4, n, 0))))))) : va_E) = .inl (Γ.2.1 3, 4, .inr (.inr (.inr (.inr (fun a => (zQ S (13, i, j) a).map (fun n => lo (4, n, 0)))))))
    refine congrArg (fun f => (.inl (Γ.2.1 3, 4, .inr (.inr (.inr (.inr f)))) : va_E)) (funext fun a => ?_)
    cases hq : zQ S (13, i, j) a with
    | none => rfl
    | some n => exact congrArg some (h (4, n, 0) ⟨a, n, hq, rfl⟩)
  | 14, _ => rfl
  | 15, _ => rfl
  | 16, _ => rfl
  | 17, _ => rfl
  | 18, _ => rfl
  | 19, _ => rfl
  | 20, _ => rfl
  | 21, _ => rfl
  | 22, _ => rfl
  | 23, h =>
    show (.inl (Γ.2.1 4, zN S (23, i, j) 0, .inr (.inr (.inr (.inr (zRf lo1 (zN S (23, i, j)) i))))) : va_E) = .inl (Γ.2.1 4, zN S (23, i, j) 0, .inr (.inr (.inr (.inr (zRf lo (zN S (23, i, j)) i)))))
    refine congrArg (fun f => (.inl (Γ.2.1 4, zN S (23, i, j) 0, .inr (.inr (.inr (.inr f)))) : va_E)) (funext fun a => ?_)
    unfold zRf
    by_cases ha : a < zN S (23, i, j) 1
    · rw [if_pos ha, if_pos ha, h (zEl i a) ⟨a, ha, rfl⟩]
    · rw [if_neg ha, if_neg ha]
  | n + 24, _ => rfl
theorem ct_nwn (Γ : zG) (lo : zId → Nat) (S : zSt) {c d : zId} (h : d ≠ c) (I : Nat → Int32) (L : Nat → Int64) (Q : Nat → Option Nat) (N : Nat → Nat) : ct Γ lo (nw S c I L Q N) d = ct Γ lo S d := by
  unfold ct
  rw [zI_nw, zL_nw, zQ_nw, zN_nw, if_neg h, if_neg h, if_neg h, if_neg h]
theorem ct_nws (Γ : zG) (lo : zId → Nat) (S : zSt) (c : zId) (I : Nat → Int32) (L : Nat → Int64) (Q : Nat → Option Nat) (N : Nat → Nat) : ct Γ lo (nw S c I L Q N) c = shp Γ lo c I L Q N := by
  unfold ct
  rw [zI_nw, zL_nw, zQ_nw, zN_nw, if_pos rfl, if_pos rfl, if_pos rfl, if_pos rfl]
theorem tg_nwn (S : zSt) {c d : zId} (h : d ≠ c) (I : Nat → Int32) (L : Nat → Int64) (Q : Nat → Option Nat) (N : Nat → Nat) (x : zId) (ht : zTg (nw S c I L Q N) d x) : zTg S d x := by
  unfold zTg at ht ⊢
  rw [zQ_nw, zN_nw, if_neg h, if_neg h] at ht
  exact ht
theorem pP_front {D : va_G} {cl : List vw_C} {w : va_W} {x : Nat × va_E} {H : Heap} (h : va_P D cl (w ++ [x]) H) : va_P D cl (x :: w) H := by
  intro k q hk
  cases k with
  | zero => cases hk; exact h w.length _ (by simp)
  | succ k =>
    have hk : w[k]? = some q := hk
    have hl : k < w.length := (List.getElem?_eq_some_iff.mp hk).1
    exact h k q (by rw [List.getElem?_append_left hl]; exact hk)
theorem pD_front {A : Nat → Prop} {w : va_W} {x : Nat × va_E} (h : va_D A (w ++ [x])) : va_D A (x :: w) := by
  have g : ∀ (k : Nat) (q : Nat × va_E), (x :: w)[k]? = some q → (w ++ [x])[if k = 0 then w.length else k - 1]? = some q := by
    intro k q hk
    cases k with
    | zero => cases hk; simp
    | succ k =>
      have hk : w[k]? = some q := hk
      have hl : k < w.length := (List.getElem?_eq_some_iff.mp hk).1
      rw [if_neg (Nat.succ_ne_zero k), Nat.add_sub_cancel, List.getElem?_append_left hl]
      exact hk
  have len : ∀ (k : Nat) (q : Nat × va_E), (x :: w)[k]? = some q → k < w.length + 1 := fun k q hk => (List.getElem?_eq_some_iff.mp hk).1
  refine ⟨fun i j a b hi hj e => ?_, fun k q hk => h.2 _ q (g k q hk)⟩
  have e2 := h.1 _ _ a b (g i a hi) (g j b hj) e
  have l1 := len i a hi
  have l2 := len j b hj
  by_cases h1 : i = 0 <;> by_cases h2 : j = 0
  · omega
  · rw [if_pos h1, if_neg h2] at e2; omega
  · rw [if_neg h1, if_pos h2] at e2; omega
  · rw [if_neg h1, if_neg h2] at e2; omega
theorem pP_back {D : va_G} {cl : List vw_C} {X ws : va_W} {x : Nat × va_E} {H : Heap} (h : va_P D cl (x :: X ++ ws) H) : va_P D cl (X ++ x :: ws) H := by
  intro k q hk
  have hm : q ∈ x :: X ++ ws := by
    have := List.mem_of_getElem? hk
    simp only [List.mem_append, List.mem_cons, List.cons_append] at this ⊢
    rcases this with h | h | h
    · exact Or.inr (Or.inl h)
    · exact Or.inl h
    · exact Or.inr (Or.inr h)
  obtain ⟨j, hj⟩ := List.mem_iff_getElem?.mp hm
  exact h j q hj
theorem pD_back {A : Nat → Prop} {X ws : va_W} {x : Nat × va_E} (h : va_D A (x :: X ++ ws)) : va_D A (X ++ x :: ws) := by
  have g : ∀ (k : Nat) (q : Nat × va_E), (X ++ x :: ws)[k]? = some q → (x :: X ++ ws)[if k < X.length then k + 1 else if k = X.length then 0 else k]? = some q := by
    intro k q hk
    by_cases h1 : k < X.length
    · rw [if_pos h1]
      rw [List.getElem?_append_left h1] at hk
      show (X ++ ws)[k]? = some q
      rw [List.getElem?_append_left h1]
      exact hk
    · rw [if_neg h1]
      by_cases h2 : k = X.length
      · rw [if_pos h2]
        rw [h2, List.getElem?_append_right (Nat.le_refl _), Nat.sub_self] at hk
        exact hk
      · rw [if_neg h2]
        rw [List.getElem?_append_right (by omega)] at hk
        obtain ⟨z, hz⟩ : ∃ z, k = X.length + 1 + z := ⟨k - (X.length + 1), by omega⟩
        subst hz
        rw [show X.length + 1 + z - X.length = z + 1 by omega] at hk
        have hk : ws[z]? = some q := hk
        rw [show X.length + 1 + z = (X.length + z) + 1 by omega]
        show (X ++ ws)[X.length + z]? = some q
        rw [List.getElem?_append_right (by omega), Nat.add_sub_cancel_left]
        exact hk
  refine ⟨fun i j a b hi hj e => ?_, fun k q hk => h.2 _ q (g k q hk)⟩
  have e2 := h.1 _ _ a b (g i a hi) (g j b hj) e
  by_cases h1 : i < X.length <;> by_cases h2 : j < X.length <;> by_cases h3 : i = X.length <;> by_cases h4 : j = X.length <;> simp only [h1, h2, h3, h4, if_true, if_false, Nat.lt_irrefl] at e2 <;> omega
/-- a raw cell that is left -/
theorem wd_leave {Γ : zG} {lo : zId → Nat} {S : zSt} {X : va_W} {x : Nat × va_E} {H : Heap} (h : Wd Γ lo S (x :: X) H) : Wd Γ lo S X H := by
  obtain ⟨h1, h2, h3, ws, hP, hD, hn⟩ := h
  exact ⟨h1, h2, h3, x :: ws, pP_back hP, pD_back hD, fun c hc => List.mem_cons_of_mem _ (hn c hc)⟩
/-- a raw cell gets its name -/
theorem wd_name {Γ : zG} {lo : zId → Nat} {S : zSt} {X : va_W} {q : Nat} {e : va_E} {H : Heap} (h : Wd Γ lo S ((q, e) :: X) H) (c : zId) (hv : zV S c = false) (I : Nat → Int32) (L : Nat → Int64) (Q : Nat → Option Nat) (N : Nat → Nat) (he : e = shp Γ (lu lo c q) c I L Q N) (ht : ∀ d, zTg (nw S c I L Q N) c d → zV S d = true) : Wd Γ (lu lo c q) (nw S c I L Q N) X H := by
  obtain ⟨h1, h2, h3, ws, hP, hD, hn⟩ := h
  have hne : ∀ d, zV S d = true → d ≠ c := fun d hd e => by rw [e, hv] at hd; cases hd
  have hVo : ∀ d, zV (nw S c I L Q N) d = true → d ≠ c → zV S d = true := fun d hd hdc => by rw [zV_nw, if_neg hdc] at hd; exact hd
  have hq : ∀ d, zV S d = true → lo d ≠ q := by
    intro d hd e2
    obtain ⟨k, hk⟩ := List.mem_iff_getElem?.mp (hn d hd)
    have e3 := hD.1 0 (X.length + 1 + k) (q, e) (lo d, ct Γ lo S d) rfl (by
      rw [show X.length + 1 + k = (X.length + k) + 1 by omega]
      show (X ++ ws)[X.length + k]? = _
      rw [List.getElem?_append_right (by omega), Nat.add_sub_cancel_left]; exact hk) e2.symm
    omega
  refine ⟨h1, ?_, ?_, (q, e) :: ws, pP_back hP, pD_back hD, ?_⟩
  · intro a b ha hab
    by_cases hac : a = c
    · subst hac
      exact zV_nwm S a I L Q N b (ht b hab)
    · exact zV_nwm S c I L Q N b (h2 a b (hVo a ha hac) (tg_nwn S hac I L Q N b hab))
  · intro a b ha hb hab
    by_cases hac : a = c <;> by_cases hbc : b = c
    · rw [hac, hbc]
    · rw [hac, lu_s, lu_n lo q hbc] at hab
      exact absurd hab.symm (hq b (hVo b hb hbc))
    · rw [hbc, lu_s, lu_n lo q hac] at hab
      exact absurd hab (hq a (hVo a ha hac))
    · rw [lu_n lo q hac, lu_n lo q hbc] at hab
      exact h3 a b (hVo a ha hac) (hVo b hb hbc) hab
  · intro d hd
    by_cases hdc : d = c
    · subst hdc
      rw [lu_s, ct_nws, ← he]
      exact List.mem_cons_self
    · rw [lu_n lo q hdc, ct_nwn Γ _ S hdc]
      have hdv := hVo d hd hdc
      rw [ct_lo Γ lo (lu lo c q) S d (fun x hx => lu_n lo q (hne x (h2 d x hdv hx)))]
      exact List.mem_cons_of_mem _ (hn d hdv)
/-- a name is given up -/
theorem wd_drop {Γ : zG} {lo : zId → Nat} {S : zSt} {X : va_W} {H : Heap} (h : Wd Γ lo S X H) (c : zId) (ht : ∀ d, zV S d = true → ¬ zTg S d c) : Wd Γ lo (pV S c false) X H := by
  obtain ⟨h1, h2, h3, ws, hP, hD, hn⟩ := h
  have hVo : ∀ d, zV (pV S c false) d = true → zV S d = true ∧ d ≠ c := by
    intro d hd
    rw [zV_pV] at hd
    by_cases e : d = c
    · rw [if_pos e] at hd; cases hd
    · rw [if_neg e] at hd; exact ⟨hd, e⟩
  refine ⟨h1, ?_, fun a b ha hb => h3 a b (hVo a ha).1 (hVo b hb).1, ws, hP, hD, fun d hd => hn d (hVo d hd).1⟩
  intro a b ha hab
  have hb := h2 a b (hVo a ha).1 hab
  rw [zV_pV, if_neg (fun e => ht a (hVo a ha).1 (by rw [← e]; exact hab))]
  exact hb
section ZN
variable {p : Program} {l : Launch} {e : Env} {R : Room} {s : State} {m : MethodId} {args : Array Value} {below : List Frame} {meth : Method} {c : Code} {H : Heap} {locs : List Loc} {cells slots : Nat} {Q : State → Prop}
variable {cc : ByteArray} {pc : Nat} {ls : Array Slot} {rest : List Value} {Γ : zG} {lo : zId → Nat} {S S0 : zSt} {X : va_W} {H0 : Heap}
theorem wd_push {D : va_G} {ws : va_W} {x : Nat × va_E} (h1 : Γ.2.2.1 ≤ H.size) (h2 : zCl S) (h3 : ∀ c d : zId, zV S c = true → zV S d = true → lo c = lo d → c = d) (hn : ∀ c : zId, zV S c = true → (lo c, ct Γ lo S c) ∈ ws) (hP : va_P Γ.1 vwCl ((X ++ ws) ++ [x]) H) (hD : va_D (zA Γ) ((X ++ ws) ++ [x])) : Wd Γ lo S (x :: X) H :=
  ⟨h1, h2, h3, ws, pP_front hP, pD_front hD, hn⟩
theorem n_new (hexec : p.tables.exec = Jvm.exec) (hb : c.code = cc) {own C : String} {T : u_T} {N ci index : Nat} {Ts : List Cond} (hts : ∀ w ∈ Ts, w.before args s = true) (hin : ∀ w ∈ u_ws C T N, w ∈ Ts) (ty : Nat → FieldType) (hty : ∀ k, k < N → parseFieldDescriptor (T k).2.2.1 = some (ty k)) (hown : s.vm.findClass own = some m.cls) (hcl : (Cond.classLink own index C).before args s = true) (hinst : (Cond.instantiable C N).before args s = true) (hini : (Cond.initialized C).before args s = true)
    (hK : va_K Γ.1 vwCl (zTy Γ) s) (hW : Wd Γ lo S X H) (hS : va_S (zA Γ) H0 H locs) (hB : Γ.2.2.1 ≤ H0.size) (hc : vwCl[ci]? = some (C, T, N)) {fs : List Value} (hfs : ∀ j, j < N → defaultValue (ty j) = vp_V fs j) (hcells : cells + 1 ≤ R.cells) (hslots : slots + N ≤ R.slots) (hdg : decode cc pc = .ok (.new index, 3))
    (kk : ∀ (q : Nat) (H1 : Heap), Wd Γ lo S ((q, .inr (ci, fs)) :: X) H1 → va_S (zA Γ) H0 H1 locs → W p l e R s m args below meth c H1 locs (cells + 1) (slots + N) Q (F0 m (pc + 3) ls (.ref q :: rest))) : W p l e R s m args below meth c H locs cells slots Q (F0 m pc ls rest) := by
  obtain ⟨h1, h2, h3, ws, hP, hD, hn⟩ := hW
  refine va_new hexec hb hts hin ty hty hown hcl hinst hini hK hP hD hS (fun q hq => Nat.le_trans hB hq) hc hfs hcells hslots hdg (fun q H1 hP1 hD1 hS1 => ?_)
  exact kk q H1 (wd_push (D := Γ.1) (Nat.le_trans hB hS1.1) h2 h3 hn hP1 hD1) hS1
theorem n_newi (hexec : p.tables.exec = Jvm.exec) (hb : c.code = cc) (harr : (Cond.arrayClass .int).before args s = true) (hK : va_K Γ.1 vwCl (zTy Γ) s) (hW : Wd Γ lo S X H) (hS : va_S (zA Γ) H0 H locs) (hB : Γ.2.2.1 ≤ H0.size) {n : Int32} {N' : Nat} (hn : ¬ n < 0) (hN : n.toNatClampNeg = N') (hbytes : N' * 4 ≤ 536870912) (hcells : cells + 1 ≤ R.cells) (hslots : slots + N' ≤ R.slots) (hdg : decode cc pc = .ok (.newarray .int, 2))
    (kk : ∀ (q : Nat) (H1 : Heap), Wd Γ lo S ((q, .inl (Γ.2.1 0, N', .inl (fun _ => 0))) :: X) H1 → va_S (zA Γ) H0 H1 locs → W p l e R s m args below meth c H1 locs (cells + 1) (slots + N') Q (F0 m (pc + 2) ls (.ref q :: rest))) : W p l e R s m args below meth c H locs cells slots Q (F0 m pc ls (.int n :: rest)) := by
  obtain ⟨h1, h2, h3, ws, hP, hD, hnn⟩ := hW
  refine va_newa (atype := .int) hexec hb harr rfl hK hP hD hS (fun q hq => Nat.le_trans hB hq) (a0 := (N', .inl (fun _ => 0))) (fun _ => rfl) hn hN hbytes hcells hslots hdg (fun q cA H1 hK1 hP1 hD1 hS1 => ?_)
  have e : cA = Γ.2.1 0 := by
    have a1 : s.vm.findClass ("[" ++ (FieldType.int).toString) = some cA := (hK1.2 5 _ rfl).2
    have a2 : s.vm.findClass ("[" ++ (FieldType.int).toString) = some (Γ.2.1 0) := (hK1.2 0 _ rfl).2
    exact Option.some.inj (a1.symm.trans a2)
  subst e
  exact kk q H1 (wd_push (D := Γ.1) (Nat.le_trans hB hS1.1) h2 h3 hnn hP1 hD1) hS1
theorem n_newl (hexec : p.tables.exec = Jvm.exec) (hb : c.code = cc) (harr : (Cond.arrayClass .long).before args s = true) (hK : va_K Γ.1 vwCl (zTy Γ) s) (hW : Wd Γ lo S X H) (hS : va_S (zA Γ) H0 H locs) (hB : Γ.2.2.1 ≤ H0.size) {n : Int32} {N' : Nat} (hn : ¬ n < 0) (hN : n.toNatClampNeg = N') (hbytes : N' * 8 ≤ 536870912) (hcells : cells + 1 ≤ R.cells) (hslots : slots + N' ≤ R.slots) (hdg : decode cc pc = .ok (.newarray .long, 2))
    (kk : ∀ (q : Nat) (H1 : Heap), Wd Γ lo S ((q, .inl (Γ.2.1 1, N', .inr (.inl (fun _ => 0)))) :: X) H1 → va_S (zA Γ) H0 H1 locs → W p l e R s m args below meth c H1 locs (cells + 1) (slots + N') Q (F0 m (pc + 2) ls (.ref q :: rest))) : W p l e R s m args below meth c H locs cells slots Q (F0 m pc ls (.int n :: rest)) := by
  obtain ⟨h1, h2, h3, ws, hP, hD, hnn⟩ := hW
  refine va_newa (atype := .long) hexec hb harr rfl hK hP hD hS (fun q hq => Nat.le_trans hB hq) (a0 := (N', .inr (.inl (fun _ => 0)))) (fun _ => rfl) hn hN hbytes hcells hslots hdg (fun q cA H1 hK1 hP1 hD1 hS1 => ?_)
  have e : cA = Γ.2.1 1 := by
    have a1 : s.vm.findClass ("[" ++ (FieldType.long).toString) = some cA := (hK1.2 5 _ rfl).2
    have a2 : s.vm.findClass ("[" ++ (FieldType.long).toString) = some (Γ.2.1 1) := (hK1.2 1 _ rfl).2
    exact Option.some.inj (a1.symm.trans a2)
  subst e
  exact kk q H1 (wd_push (D := Γ.1) (Nat.le_trans hB hS1.1) h2 h3 hnn hP1 hD1) hS1
theorem n_newz (hexec : p.tables.exec = Jvm.exec) (hb : c.code = cc) (harr : (Cond.arrayClass .boolean).before args s = true) (hK : va_K Γ.1 vwCl (zTy Γ) s) (hW : Wd Γ lo S X H) (hS : va_S (zA Γ) H0 H locs) (hB : Γ.2.2.1 ≤ H0.size) {n : Int32} {N' : Nat} (hn : ¬ n < 0) (hN : n.toNatClampNeg = N') (hbytes : N' * 1 ≤ 536870912) (hcells : cells + 1 ≤ R.cells) (hslots : slots + N' ≤ R.slots) (hdg : decode cc pc = .ok (.newarray .boolean, 2))
    (kk : ∀ (q : Nat) (H1 : Heap), Wd Γ lo S ((q, .inl (Γ.2.1 2, N', .inl (fun _ => 0))) :: X) H1 → va_S (zA Γ) H0 H1 locs → W p l e R s m args below meth c H1 locs (cells + 1) (slots + N') Q (F0 m (pc + 2) ls (.ref q :: rest))) : W p l e R s m args below meth c H locs cells slots Q (F0 m pc ls (.int n :: rest)) := by
  obtain ⟨h1, h2, h3, ws, hP, hD, hnn⟩ := hW
  refine va_newa (atype := .boolean) hexec hb harr rfl hK hP hD hS (fun q hq => Nat.le_trans hB hq) (a0 := (N', .inl (fun _ => 0))) (fun _ => rfl) hn hN hbytes hcells hslots hdg (fun q cA H1 hK1 hP1 hD1 hS1 => ?_)
  have e : cA = Γ.2.1 2 := by
    have a1 : s.vm.findClass ("[" ++ (FieldType.boolean).toString) = some cA := (hK1.2 5 _ rfl).2
    have a2 : s.vm.findClass ("[" ++ (FieldType.boolean).toString) = some (Γ.2.1 2) := (hK1.2 2 _ rfl).2
    exact Option.some.inj (a1.symm.trans a2)
  subst e
  exact kk q H1 (wd_push (D := Γ.1) (Nat.le_trans hB hS1.1) h2 h3 hnn hP1 hD1) hS1
theorem n_newq (hexec : p.tables.exec = Jvm.exec) (hb : c.code = cc) {own C : String} {index kA : Nat} (hown : s.vm.findClass own = some m.cls) (hclink : (Cond.classLink own index C).before args s = true) (hover : va_AO C s) (hK : va_K Γ.1 vwCl (zTy Γ) s) (hkA : (zTy Γ)[kA]? = some (Γ.2.1 kA, .object C)) (hW : Wd Γ lo S X H) (hS : va_S (zA Γ) H0 H locs) (hB : Γ.2.2.1 ≤ H0.size) {n : Int32} {N' : Nat} (hn : ¬ n < 0) (hN : n.toNatClampNeg = N') (hbytes : N' * 4 ≤ 536870912) (hcells : cells + 1 ≤ R.cells) (hslots : slots + N' ≤ R.slots) (hdg : decode cc pc = .ok (.anewarray index, 3))
    (kk : ∀ (q : Nat) (H1 : Heap), Wd Γ lo S ((q, .inl (Γ.2.1 kA, N', .inr (.inr (.inr (.inr (fun _ => none)))))) :: X) H1 → va_S (zA Γ) H0 H1 locs → W p l e R s m args below meth c H1 locs (cells + 1) (slots + N') Q (F0 m (pc + 3) ls (.ref q :: rest))) : W p l e R s m args below meth c H locs cells slots Q (F0 m pc ls (.int n :: rest)) := by
  obtain ⟨h1, h2, h3, ws, hP, hD, hnn⟩ := hW
  refine va_newq hexec hb hown hclink hover hK hP hD hS (fun q hq => Nat.le_trans hB hq) hn hN hbytes hcells hslots hdg (fun q cA H1 hK1 hP1 hD1 hS1 => ?_)
  have e : cA = Γ.2.1 kA := by
    obtain ⟨_, _, _, _, _, a1⟩ := (hK1.2 5 _ rfl).2
    obtain ⟨_, _, _, _, _, a2⟩ := (hK.2 kA _ hkA).2
    exact Option.some.inj (a1.symm.trans a2)
  subst e
  exact kk q H1 (wd_push (D := Γ.1) (Nat.le_trans hB hS1.1) h2 h3 hnn hP1 hD1) hS1
/-- fields of a raw object -/
theorem x_put (hexec : p.tables.exec = Jvm.exec) (hb : c.code = cc) {own C : String} {T : u_T} {N ci index : Nat} {Ts : List Cond} (hts : ∀ w ∈ Ts, w.before args s = true) (hin : ∀ w ∈ u_ws C T N, w ∈ Ts) (ty0 : Nat → FieldType) (hty : ∀ k, k < N → parseFieldDescriptor (T k).2.2.1 = some (ty0 k)) (hnm : ∀ a, a < N → ∀ b, b < N → a ≠ b → (T a).2.1 ≠ (T b).2.1)
    (hown : s.vm.findClass own = some m.cls) (hK : va_K Γ.1 vwCl (zTy Γ) s) (hW : Wd Γ lo S X H) (hS0 : va_S (zA Γ) H0 H locs) (pl : Nat) {a : Nat} {fs : List Value} (hX : X[pl]? = some (a, .inr (ci, fs))) (hc : vwCl[ci]? = some (C, T, N)) (k : Nat) (hk : k < N)
    (hlink : (Cond.fieldLink own index C (T k).2.1 (T k).2.2.1).before args s = true) (hTC : (T k).1 = C) (hfin : (T k).2.2.2 = false) {v : Value} {ty : FieldType} (hd : parseFieldDescriptor (T k).2.2.1 = some ty) (hn : narrow ty v = v) (hfit : fits ty v = true) (hl : k < fs.length) (hdg : decode cc pc = .ok (.putfield index, 3))
    (kk : ∀ (H1 : Heap) (locs1 : List Loc), Wd Γ lo S (X.set pl (a, .inr (ci, fs.set k v))) H1 → va_S (zA Γ) H0 H1 locs1 → W p l e R s m args below meth c H1 locs1 cells slots Q (F0 m (pc + 3) ls rest)) : W p l e R s m args below meth c H locs cells slots Q (F0 m pc ls (v :: .ref a :: rest)) := by
  obtain ⟨ws, hq, hP, hD, hback⟩ := wd_xset hW hX (.inr (ci, fs.set k v))
  exact va_put hexec hb hts hin ty0 hty hnm hown hK hP hD hS0 pl hq hc k hk hlink (fun x h => by rw [hTC] at h; exact h) hfin hd hn hfit hl hdg (fun H1 locs1 hP1 hD1 hS1 => kk H1 locs1 (hback H1 hP1 hD1) hS1)
theorem x_putF (hexec : p.tables.exec = Jvm.exec) (hb : c.code = cc) {own C : String} {T : u_T} {N ci index : Nat} {Ts : List Cond} (hts : ∀ w ∈ Ts, w.before args s = true) (hin : ∀ w ∈ u_ws C T N, w ∈ Ts) (ty0 : Nat → FieldType) (hty : ∀ k, k < N → parseFieldDescriptor (T k).2.2.1 = some (ty0 k)) (hnm : ∀ a, a < N → ∀ b, b < N → a ≠ b → (T a).2.1 ≠ (T b).2.1)
    (hown : s.vm.findClass own = some m.cls) (hK : va_K Γ.1 vwCl (zTy Γ) s) (hW : Wd Γ lo S X H) (hS0 : va_S (zA Γ) H0 H locs) (pl : Nat) {a : Nat} {fs : List Value} (hX : X[pl]? = some (a, .inr (ci, fs))) (hc : vwCl[ci]? = some (C, T, N)) (k : Nat) (hk : k < N)
    (hlink : (Cond.fieldLink own index C (T k).2.1 (T k).2.2.1).before args s = true) (hTC : (T k).1 = C) (hfin : (T k).2.2.2 = true) (hin2 : meth.name = "<init>") (hdecl : (T k).1 = own) {v : Value} {ty : FieldType} (hd : parseFieldDescriptor (T k).2.2.1 = some ty) (hn : narrow ty v = v) (hfit : fits ty v = true) (hl : k < fs.length) (hdg : decode cc pc = .ok (.putfield index, 3))
    (kk : ∀ (H1 : Heap) (locs1 : List Loc), Wd Γ lo S (X.set pl (a, .inr (ci, fs.set k v))) H1 → va_S (zA Γ) H0 H1 locs1 → W p l e R s m args below meth c H1 locs1 cells slots Q (F0 m (pc + 3) ls rest)) : W p l e R s m args below meth c H locs cells slots Q (F0 m pc ls (v :: .ref a :: rest)) := by
  obtain ⟨ws, hq, hP, hD, hback⟩ := wd_xset hW hX (.inr (ci, fs.set k v))
  exact va_putF hexec hb hts hin ty0 hty hnm hown hK hP hD hS0 pl hq hc k hk hlink (fun x h => by rw [hTC] at h; exact h) hfin hin2 hdecl hd hn hfit hl hdg (fun H1 locs1 hP1 hD1 hS1 => kk H1 locs1 (hback H1 hP1 hD1) hS1)
end ZN
/-- what a method gives back that makes something: names may lie elsewhere, those that stood lie where they lay -/
def zQn (Γ : zG) (lo : zId → Nat) (S0 S : zSt) (X : va_W) (v : (zId → Nat) → Option Value) (E : (zId → Nat) → Prop) : Array Value → State → Outcome → State → Prop := fun _ st oc t =>
  ∃ lo1 : zId → Nat, oc = .returned (v lo1) ∧ Wd Γ lo1 S X t.heap ∧ ((∀ d, zV S0 d = true → lo1 d = lo d) ∧ (∀ d, zV S0 d = true → zV S d = true) ∧ E lo1) ∧ va_F (zA Γ) st t
section ZO
variable {p : Program} {l : Launch} {e : Env} {R : Room} {s : State} {m : MethodId} {args : Array Value} {below : List Frame} {meth : Method} {c : Code} {H : Heap} {locs : List Loc} {cells slots : Nat} {Q : State → Prop}
variable {cc : ByteArray} {pc : Nat} {ls : Array Slot} {rest : List Value} {Γ : zG} {lo lo0 : zId → Nat} {S S0 S1 : zSt} {X X1 : va_W} {H0 : Heap} {v : (zId → Nat) → Option Value} {E : (zId → Nat) → Prop}
theorem n_vret (hexec : p.tables.exec = Jvm.exec) (hb : c.code = cc) (hr : meth.sig.returnType = none) (hlocks : meth.locks = false) {mc ms : Nat} (hc : cells ≤ mc) (hs : slots ≤ ms) (hv : v lo = none) (hW : Wd Γ lo S1 X1 H) (hS : va_S (zA Γ) s.heap H locs) (hlo : ∀ d, zV S0 d = true → lo d = lo0 d) (hm : ∀ d, zV S0 d = true → zV S1 d = true) (hE : E lo) (hdg : decode cc pc = .ok (.return_, 1)) :
    W p l e R s m args below meth c H locs cells slots (MQ below (zQn Γ lo0 S0 S1 X1 v E) args s mc ms (zA Γ)) (F0 m pc ls []) :=
  W.widen hc hs (W.vret hexec hb hr (fun t ht _ => ⟨lo, by rw [hv], by rw [ht]; exact hW, ⟨hlo, hm, hE⟩, hS.F ht⟩) hS.2.2 hdg hlocks)
theorem n_iret (hexec : p.tables.exec = Jvm.exec) (hb : c.code = cc) {ty : FieldType} (hr : meth.sig.returnType = some ty) (hlocks : meth.locks = false) {mc ms : Nat} (hc : cells ≤ mc) (hs : slots ≤ ms) {x : Int32} (hn : narrow ty (.int x) = .int x) (hv : v lo = some (.int x)) (hW : Wd Γ lo S1 X1 H) (hS : va_S (zA Γ) s.heap H locs) (hlo : ∀ d, zV S0 d = true → lo d = lo0 d) (hm : ∀ d, zV S0 d = true → zV S1 d = true) (hE : E lo) (hdg : decode cc pc = .ok (.ireturn, 1)) :
    W p l e R s m args below meth c H locs cells slots (MQ below (zQn Γ lo0 S0 S1 X1 v E) args s mc ms (zA Γ)) (F0 m pc ls [.int x]) :=
  W.widen hc hs (W.zret hexec hb hr hn (fun t ht _ => ⟨lo, by rw [hv], by rw [ht]; exact hW, ⟨hlo, hm, hE⟩, hS.F ht⟩) hS.2.2 hdg hlocks)
theorem n_aret (hexec : p.tables.exec = Jvm.exec) (hb : c.code = cc) {rt : FieldType} (hr : meth.sig.returnType = some rt) (hrt : (∃ n, rt = .object n) ∨ ∃ t, rt = .array t) (hlocks : meth.locks = false) {mc ms : Nat} (hc : cells ≤ mc) (hs : slots ≤ ms) {a : Nat} (hv : v lo = some (.ref a)) (hW : Wd Γ lo S1 X1 H) (hS : va_S (zA Γ) s.heap H locs) (hlo : ∀ d, zV S0 d = true → lo d = lo0 d) (hm : ∀ d, zV S0 d = true → zV S1 d = true) (hE : E lo) (hdg : decode cc pc = .ok (.areturn, 1)) :
    W p l e R s m args below meth c H locs cells slots (MQ below (zQn Γ lo0 S0 S1 X1 v E) args s mc ms (zA Γ)) (F0 m pc ls [.ref a]) :=
  W.widen hc hs (W.aret hexec hb hr hrt (Or.inr ⟨a, rfl⟩) (fun t ht _ => ⟨lo, by rw [hv], by rw [ht]; exact hW, ⟨hlo, hm, hE⟩, hS.F ht⟩) hS.2.2 hdg hlocks)
theorem n_go {mc ms : Nat} {a : Array Value} {st0 : List Value} (hr : va_Run p l e R s m args below meth c H locs cells slots mc ms (F0 m pc ls st0) rest (zQn Γ lo S S1 X1 v E a) (zA Γ)) (hS : va_S (zA Γ) s.heap H locs)
    (kk : ∀ (lo1 : zId → Nat) (H1 : Heap) (locs1 : List Loc), Wd Γ lo1 S1 X1 H1 → va_S (zA Γ) s.heap H1 locs1 → (∀ d, zV S d = true → lo1 d = lo d) → (∀ d, zV S d = true → zV S1 d = true) → E lo1 → W p l e R s m args below meth c H1 locs1 (cells + mc) (slots + ms) Q (F0 m (pc + 3) ls ((v lo1).toList ++ rest))) : W p l e R s m args below meth c H locs cells slots Q (F0 m pc ls st0) := by
  intro T hT Xs
  obtain ⟨v1, st₀, t, T', L, h0, X', hL, e1, e2, ⟨lo1, hv, hw, ⟨hlo, hmm, hE⟩, hz, hk⟩, hst⟩ := hr T hT Xs
  cases hv
  rw [h0] at hz hk
  obtain ⟨t2, a1, b1⟩ := kk lo1 T'.heap (locs ++ L) (by rw [e1]; exact hw)
    ⟨Nat.le_trans hS.1 (by rw [e1]; exact hz), fun q h1 h2 => by rw [e1, hk q (Nat.lt_of_lt_of_le h1 hS.1) h2]; exact hS.2.1 q h1 h2, fun q hq => by
      rcases List.mem_append.mp hq with h | h
      · exact hS.2.2 q h
      · exact hL q h⟩ hlo hmm hE T' rfl X'
  exact ⟨t2, hst t2 a1, b1⟩
theorem n_callI {Ts ws : List Cond} {bytes : ByteArray} {nL maxL index n mc ms : Nat} {own : String} {y : MethodName} {rm : Room} {b : Addr} {As : List Value}
    (F : CallFix p m c cc nL s args Ts own) (hM : Met l y ws rm (zP2 Γ lo S X (.ref b :: As)) (zQn Γ lo S S1 X1 v E) mc ms (zA Γ)) (cw : CallB R s args own index y bytes maxL none ws rm mc ms n ∧ y.name = "<init>" ∧ (Cond.instanceMethod y).before args s = true) (hKK : KK Γ s) (hKY : KY s) (hW : Wd Γ lo S X H) (hS : va_S (zA Γ) s.heap H locs)
    (hn : As.length = n) (hsize : ls.size = nL) {st0 : List Value} (hst : st0 = As.reverse ++ .ref b :: rest) (hR : (rest.map fun v => v.category).sum ≤ 8) (hdg : decode cc pc = .ok (.invokespecial index, 3)) (hf : cells + mc ≤ R.cells ∧ slots + ms ≤ R.slots)
    (kk : ∀ (lo1 : zId → Nat) (H1 : Heap) (locs1 : List Loc), Wd Γ lo1 S1 X1 H1 → va_S (zA Γ) s.heap H1 locs1 → (∀ d, zV S d = true → lo1 d = lo d) → (∀ d, zV S d = true → zV S1 d = true) → E lo1 → W p l e R s m args below meth c H1 locs1 (cells + mc) (slots + ms) Q (F0 m (pc + 3) ls ((v lo1).toList ++ rest))) : W p l e R s m args below meth c H locs cells slots Q (F0 m pc ls st0) :=
  n_go (va_runI F hM cw ⟨fun _ _ _ _ q => q, fun _ hU hW1 => ⟨rfl, by rw [hU]; exact hW, hKK.go hS hU hW1, hKY.go hW1⟩⟩ rfl hn hsize hst (lv_room hR) hdg hf) hS kk
theorem n_callIN {Ts ws : List Cond} {bytes : ByteArray} {nL maxL index n mc ms : Nat} {own host : String} {y : MethodName} {rm : Room} {b : Addr} {As : List Value}
    (F : CallFix p m c cc nL s args Ts own) (hM : Met l y ws rm (zP2 Γ lo S X (.ref b :: As)) (zQn Γ lo S S1 X1 v E) mc ms (zA Γ)) (cw : va_CN R s args own index y host bytes maxL none ws rm mc ms n ∧ y.name = "<init>" ∧ (Cond.instanceMethod y).before args s = true) (hKK : KK Γ s) (hKY : KY s) (hW : Wd Γ lo S X H) (hS : va_S (zA Γ) s.heap H locs)
    (hn : As.length = n) (hsize : ls.size = nL) {st0 : List Value} (hst : st0 = As.reverse ++ .ref b :: rest) (hR : (rest.map fun v => v.category).sum ≤ 8) (hdg : decode cc pc = .ok (.invokespecial index, 3)) (hf : cells + mc ≤ R.cells ∧ slots + ms ≤ R.slots)
    (kk : ∀ (lo1 : zId → Nat) (H1 : Heap) (locs1 : List Loc), Wd Γ lo1 S1 X1 H1 → va_S (zA Γ) s.heap H1 locs1 → (∀ d, zV S d = true → lo1 d = lo d) → (∀ d, zV S d = true → zV S1 d = true) → E lo1 → W p l e R s m args below meth c H1 locs1 (cells + mc) (slots + ms) Q (F0 m (pc + 3) ls ((v lo1).toList ++ rest))) : W p l e R s m args below meth c H locs cells slots Q (F0 m pc ls st0) :=
  n_go (va_runIN F hM cw ⟨fun _ _ _ _ q => q, fun _ hU hW1 => ⟨rfl, by rw [hU]; exact hW, hKK.go hS hU hW1, hKY.go hW1⟩⟩ rfl hn hsize hst (lv_room hR) hdg hf) hS kk
theorem n_callV {Ts ws : List Cond} {bytes : ByteArray} {nL maxL index n mc ms : Nat} {own C : String} {y : MethodName} {ret : Option FieldType} {rm : Room} {b : Addr} {As : List Value} {ci : Nat} {fs : List Value} {T : u_T} {NN : Nat}
    (F : CallFix p m c cc nL s args Ts own) (hM : Met l y ws rm (zP2 Γ lo S X (.ref b :: As)) (zQn Γ lo S S1 X1 v E) mc ms (zA Γ)) (cw : CallW R s args own C index y bytes maxL ret ws rm mc ms n) (hP : va_P Γ.1 vwCl [(b, .inr (ci, fs))] H) (hc : vwCl[ci]? = some (C, T, NN)) (hKK : KK Γ s) (hKY : KY s) (hW : Wd Γ lo S X H) (hS : va_S (zA Γ) s.heap H locs)
    (hn : As.length = n) (hsize : ls.size = nL) {st0 : List Value} (hst : st0 = As.reverse ++ .ref b :: rest) (hR : (rest.map fun v => v.category).sum ≤ 8) (hdg : decode cc pc = .ok (.invokevirtual index, 3)) (hf : cells + mc ≤ R.cells ∧ slots + ms ≤ R.slots)
    (kk : ∀ (lo1 : zId → Nat) (H1 : Heap) (locs1 : List Loc), Wd Γ lo1 S1 X1 H1 → va_S (zA Γ) s.heap H1 locs1 → (∀ d, zV S d = true → lo1 d = lo d) → (∀ d, zV S d = true → zV S1 d = true) → E lo1 → W p l e R s m args below meth c H1 locs1 (cells + mc) (slots + ms) Q (F0 m (pc + 3) ls ((v lo1).toList ++ rest))) : W p l e R s m args below meth c H locs cells slots Q (F0 m pc ls st0) :=
  n_go (va_runV F hM cw ⟨fun _ _ _ _ q => q, va_recv (q0 := 0) hKK.1 hP hc rfl, fun _ hU hW1 => ⟨rfl, by rw [hU]; exact hW, hKK.go hS hU hW1, hKY.go hW1⟩⟩ rfl hn hsize hst (lv_room hR) hdg hf) hS kk
end ZO
