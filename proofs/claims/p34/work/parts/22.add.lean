set_option maxRecDepth 100000 in
def zPm (Γ : zG) (lo : zId → Nat) (S : zSt) (X : va_W) (mi : Nat) (av : List Value) : Array Value → State → Prop := fun v U => v = av.toArray ∧ Wd Γ lo S X U.heap ∧ KK Γ U ∧ KY U ∧ va_Mi "[Ljava/lang/Object;" mi U
/-- a new raw cell comes back -/
def zQc (Γ : zG) (lo : zId → Nat) (S : zSt) (X : va_W) (e : va_E) : Array Value → State → Outcome → State → Prop := fun _ st oc t => ∃ q : Nat, oc = .returned (some (.ref q)) ∧ Wd Γ lo S ((q, e) :: X) t.heap ∧ va_F (zA Γ) st t
def zRw (Γ : zG) (n : Nat) (f : Nat → Option Nat) : va_E := .inl (Γ.2.1 4, n, .inr (.inr (.inr (.inr f))))
section ZA
variable {p : Program} {l : Launch} {e : Env} {R : Room} {s : State} {m : MethodId} {args : Array Value} {below : List Frame} {meth : Method} {c : Code} {H : Heap} {locs : List Loc} {cells slots : Nat} {Q : State → Prop}
variable {cc : ByteArray} {pc : Nat} {ls : Array Slot} {rest : List Value} {Γ : zG} {lo : zId → Nat} {S S0 : zSt} {X : va_W} {H0 : Heap}
theorem c_go {mc ms : Nat} {E : va_E} {a : Array Value} {st0 : List Value} (hr : va_Run p l e R s m args below meth c H locs cells slots mc ms (F0 m pc ls st0) rest (zQc Γ lo S X E a) (zA Γ)) (hS : va_S (zA Γ) s.heap H locs)
    (kk : ∀ (q : Nat) (H1 : Heap) (locs1 : List Loc), Wd Γ lo S ((q, E) :: X) H1 → va_S (zA Γ) s.heap H1 locs1 → W p l e R s m args below meth c H1 locs1 (cells + mc) (slots + ms) Q (F0 m (pc + 3) ls (.ref q :: rest))) : W p l e R s m args below meth c H locs cells slots Q (F0 m pc ls st0) := by
  intro T hT Xs
  obtain ⟨v1, st₀, t, T', L, h0, X', hL, e1, e2, ⟨q, hv, hw, hz, hk⟩, hst⟩ := hr T hT Xs
  cases hv
  rw [h0] at hz hk
  obtain ⟨t2, a1, b1⟩ := kk q T'.heap (locs ++ L) (by rw [e1]; exact hw)
    ⟨Nat.le_trans hS.1 (by rw [e1]; exact hz), fun q h1 h2 => by rw [e1, hk q (Nat.lt_of_lt_of_le h1 hS.1) h2]; exact hS.2.1 q h1 h2, fun q hq => by
      rcases List.mem_append.mp hq with h | h
      · exact hS.2.2 q h
      · exact hL q h⟩ T' rfl X'
  exact ⟨t2, hst t2 a1, b1⟩
theorem c_aret (hexec : p.tables.exec = Jvm.exec) (hb : c.code = cc) {rt : FieldType} (hr : meth.sig.returnType = some rt) (hrt : (∃ n, rt = .object n) ∨ ∃ t, rt = .array t) (hlocks : meth.locks = false) {mc ms : Nat} (hc : cells ≤ mc) (hs : slots ≤ ms) {q : Nat} {E : va_E} (hW : Wd Γ lo S ((q, E) :: X) H) (hS : va_S (zA Γ) s.heap H locs) (hdg : decode cc pc = .ok (.areturn, 1)) :
    W p l e R s m args below meth c H locs cells slots (MQ below (zQc Γ lo S X E) args s mc ms (zA Γ)) (F0 m pc ls [.ref q]) :=
  W.widen hc hs (W.aret hexec hb hr hrt (Or.inr ⟨q, rfl⟩) (fun t ht _ => ⟨q, rfl, by rw [ht]; exact hW, hS.F ht⟩) hS.2.2 hdg hlocks)
theorem el_any (hKK : KK Γ s) (hKY : KY s) (hW : Wd Γ lo S X H) {i k : Nat} (hv : zV S (zEl i k) = true) : va_Any "java/lang/Object" s H (lo (zEl i k)) := by
  match i, hv with
  | 0, hv => exact va_rAny (q0 := 0) hKK.1 (wd_1 hW hv) rfl (show vwCl[8]? = some _ from rfl) (vb_asgC (hKY.2.1.2 _ (List.mem_of_getElem? (i := 2) rfl)))
  | 1, hv => exact va_rAny (q0 := 0) hKK.1 (wd_1 hW hv) rfl (show vwCl[3]? = some _ from rfl) (vb_asgC (hKY.2.1.2 _ (List.mem_of_getElem? (i := 1) rfl)))
  | t + 2, hv => exact va_rAny (q0 := 0) hKK.1 (wd_1 hW hv) rfl (show vwCl[2]? = some _ from rfl) (vb_asgC (hKY.2.1.2 _ (List.mem_of_getElem? (i := 0) rfl)))
theorem zRf_none {N : Nat → Nat} {i k y : Nat} (h : zRf lo N i k = some y) : k < N 1 ∧ y = lo (zEl i k) := by
  unfold zRf at h
  by_cases hk : k < N 1
  · rw [if_pos hk] at h; exact ⟨hk, (Option.some.inj h).symm⟩
  · rw [if_neg hk] at h; cases h
/-- the copy of a list's row into a new one -/
theorem c_copy {cc : ByteArray} (hexec : p.tables.exec = Jvm.exec) (hb : c.code = cc) (hml : c.maxLocals = ls.size) {own : String} {index : Nat} (hown : s.vm.findClass own = some m.cls) (hlink : (Cond.methodLink own index arraycopyName).before args s = true) (hnat : (Cond.native arraycopyName).before args s = true) (hstat : (Cond.static arraycopyName).before args s = true) (hini : (Cond.initialized "java/lang/System").before args s = true)
    (hKK : KK Γ s) (hKY : KY s) {q n1 : Nat} {g : Nat → Option Nat} (hW : Wd Γ lo S ((q, zRw Γ n1 g) :: X) H) (hS : va_S (zA Γ) H0 H locs) {i k : Nat} (hv : zV S (23, i, k) = true) {n : Int32} (h3 : ¬ n < 0) (h4 : n.toNatClampNeg ≤ zN S (23, i, k) 0) (h5 : n.toNatClampNeg ≤ n1)
    (hframes : 1 ≤ R.frames) (hlocals : (rest.map fun v => v.category).sum + (nativeFrameWords "java/lang/System" "arraycopy" 5 + 11) ≤ R.locals) (hdg : decode cc pc = .ok (.invokestatic index, 3))
    (kk : ∀ (H1 : Heap) (locs1 : List Loc), Wd Γ lo S ((q, zRw Γ n1 (va_cpy (zRf lo (zN S (23, i, k)) i) g 0 0 n.toNatClampNeg)) :: X) H1 → va_S (zA Γ) H0 H1 locs1 → W p l e R s m args below meth c H1 locs1 cells slots Q (F0 m (pc + 3) ls rest)) : W p l e R s m args below meth c H locs cells slots Q (F0 m pc ls (.int n :: .int 0 :: .ref q :: .int 0 :: .ref (lo (23, i, k)) :: rest)) := by
  have hW0 := hW
  obtain ⟨b1, b2, b3, ws, hP, hD, hn⟩ := hW
  obtain ⟨z, hz⟩ := List.mem_iff_getElem?.mp (hn _ hv)
  have ha0 : ((q, zRw Γ n1 g) :: X ++ ws)[X.length + 1 + z]? = some (lo (23, i, k), ct Γ lo S (23, i, k)) := by
    rw [show X.length + 1 + z = (X.length + z) + 1 by omega]
    show (X ++ ws)[X.length + z]? = _
    rw [List.getElem?_append_right (by omega), Nat.add_sub_cancel_left]; exact hz
  refine va_copyM hexec hb hml hown hlink hnat hstat hini hKK.1 hP hD hS (X.length + 1 + z) 0 4 4 (E0 := "java/lang/Object") (E1 := "java/lang/Object") ha0 rfl rfl rfl (by decide) (by decide) h3 (by rw [show (0 : Int32).toNatClampNeg = 0 by decide, Nat.zero_add]; exact h4) (by rw [show (0 : Int32).toNatClampNeg = 0 by decide, Nat.zero_add]; exact h5) (fun j hj y hy => ?_) hframes hlocals hdg (fun H1 locs1 hP1 hD1 hS1 => ?_)
  · obtain ⟨e1, e2⟩ := zRf_none hy
    rw [e2]
    exact el_any hKK hKY hW0 (b2 (23, i, k) _ hv ⟨_, e1, rfl⟩)
  · rw [show (0 : Int32).toNatClampNeg = 0 by decide] at hP1 hD1
    refine kk H1 locs1 ⟨?_, b2, b3, ws, hP1, hD1, hn⟩ hS1
    exact Nat.le_of_lt (Nat.lt_of_le_of_lt (hD1.2 0 _ rfl) (hP1 0 _ rfl).lt)
theorem cl_pNl (hC : zCl S) {i g : Nat} (hv : g ≠ 0 → zV S (23, i, g) = true) : zCl (pN S (0, i, 0) 0 g) := by
  intro c d hc ht
  rw [zV_pN] at hc ⊢
  by_cases h : c = (0, i, 0)
  · subst h
    obtain ⟨h1, h2⟩ := ht
    rw [zN_pN, if_pos rfl] at h1 h2
    have e : va_up (zN S (0, i, 0)) 0 g 0 = g := if_pos rfl
    rw [e] at h1 h2
    rw [h2]
    exact hv h1
  · refine hC c d hc ?_
    unfold zTg at ht ⊢
    rw [zN_pN, if_neg h] at ht
    exact ht
theorem cl_pNr (hC : zCl S) {i g j : Nat} (hj : zN S (23, i, g) 1 = j) (hv : zV S (zEl i j) = true) : zCl (pN S (23, i, g) 1 (j + 1)) := by
  intro c d hc ht
  rw [zV_pN] at hc ⊢
  by_cases h : c = (23, i, g)
  · subst h
    obtain ⟨k, h1, h2⟩ := ht
    rw [zN_pN, if_pos rfl] at h1
    have e : va_up (zN S (23, i, g)) 1 (j + 1) 1 = j + 1 := if_pos rfl
    rw [e] at h1
    rw [h2]
    by_cases hk : k = j
    · rw [hk]; exact hv
    · exact hC (23, i, g) _ hc ⟨k, by rw [hj]; omega, rfl⟩
  · refine hC c d hc ?_
    unfold zTg at ht ⊢
    rw [zN_pN, if_neg h] at ht
    exact ht
theorem ct_pNn (Γ : zG) (lo : zId → Nat) (S : zSt) {c d : zId} (h : d ≠ c) (k v : Nat) : ct Γ lo (pN S c k v) d = ct Γ lo S d := by
  unfold ct
  rw [zN_pN, if_neg h]
  rfl
/-- the list gets another row -/
theorem g_putE (hexec : p.tables.exec = Jvm.exec) (hb : c.code = cc) {own : String} {index : Nat} {Ts : List Cond} (hts : ∀ w ∈ Ts, w.before args s = true) (hin : ∀ w ∈ wsJx4a65c0, w ∈ Ts) (hown : s.vm.findClass own = some m.cls) (hK : va_K Γ.1 vwCl (zTy Γ) s) (hW : Wd Γ lo S X H) (hS0 : va_S (zA Γ) H0 H locs) {i g : Nat} (hv : zV S (0, i, 0) = true) (hg : g ≠ 0) (hv2 : zV S (23, i, g) = true)
    (hlink : (Cond.fieldLink own index "java/util/ArrayList" "elementData" "[Ljava/lang/Object;").before args s = true) (hdg : decode cc pc = .ok (.putfield index, 3))
    (kk : ∀ (H1 : Heap) (locs1 : List Loc), Wd Γ lo (pN S (0, i, 0) 0 g) X H1 → va_S (zA Γ) H0 H1 locs1 → W p l e R s m args below meth c H1 locs1 cells slots Q (F0 m (pc + 3) ls rest)) : W p l e R s m args below meth c H locs cells slots Q (F0 m pc ls (.ref (lo (23, i, g)) :: .ref (lo (0, i, 0)) :: rest)) := by
  obtain ⟨ws, q0, hq, hP, hD, hback⟩ := wd_set (S1 := pN S (0, i, 0) 0 g) hW hv (fun _ => rfl) (cl_pNl hW.2.1 (fun _ => hv2)) (fun d hd => ct_pNn Γ lo S hd 0 g)
  have hq : ws[q0]? = some (lo (0, i, 0), .inr (0, [.int (zI S (0, i, 0) 0), zE Γ lo i (zN S (0, i, 0) 0), .int (zI S (0, i, 0) 2)])) := hq
  have e : ct Γ lo (pN S (0, i, 0) 0 g) (0, i, 0) = .inr (0, [.int (zI S (0, i, 0) 0), .ref (lo (23, i, g)), .int (zI S (0, i, 0) 2)]) := by
    show (.inr (0, [.int (zI S (0, i, 0) 0), zE Γ lo i (zN (pN S (0, i, 0) 0 g) (0, i, 0) 0), .int (zI S (0, i, 0) 2)]) : va_E) = _
    have e1 : zN (pN S (0, i, 0) 0 g) (0, i, 0) 0 = g := by rw [zN_pN, if_pos rfl]; exact if_pos rfl
    rw [e1]
    unfold zE
    rw [if_neg hg]
  rw [e] at hback
  exact va_put hexec hb hts hin tyJx4a65c tyJx4a65c_ok nmJx4a65c hown hK hP hD hS0 q0 hq rfl 1 (by decide) hlink (fun x h => h) rfl rfl rfl rfl (show 1 < 3 by decide) hdg (fun H1 locs1 hP1 hD1 hS1 => kk H1 locs1 (hback H1 hP1 hD1) hS1)
theorem zRf_up (N : Nat → Nat) (i j : Nat) (hj : N 1 = j) : va_up (zRf lo N i) j (some (lo (zEl i j))) = zRf lo (va_up N 1 (j + 1)) i := by
  funext k
  show (if k = j then some (lo (zEl i j)) else if k < N 1 then some (lo (zEl i k)) else none) = if k < j + 1 then some (lo (zEl i k)) else none
  by_cases h : k = j
  · rw [if_pos h, if_pos (by omega), h]
  · rw [if_neg h]
    by_cases h2 : k < N 1
    · rw [if_pos h2, if_pos (by omega)]
    · rw [if_neg h2, if_neg (by omega)]
/-- one more in the row -/
theorem g_astE (hexec : p.tables.exec = Jvm.exec) (hb : c.code = cc) (hKK : KK Γ s) (hKY : KY s) (hW : Wd Γ lo S X H) (hS0 : va_S (zA Γ) H0 H locs) {i g j : Nat} (hv : zV S (23, i, g) = true) (hv2 : zV S (zEl i j) = true) (hj : zN S (23, i, g) 1 = j) {x : Int32} (hx : x.toNatClampNeg = j) (hin : vp_in x (zN S (23, i, g) 0)) (hdg : decode cc pc = .ok (.aastore, 1))
    (kk : ∀ (H1 : Heap) (locs1 : List Loc), Wd Γ lo (pN S (23, i, g) 1 (j + 1)) X H1 → va_S (zA Γ) H0 H1 locs1 → W p l e R s m args below meth c H1 locs1 cells slots Q (F0 m (pc + 1) ls rest)) : W p l e R s m args below meth c H locs cells slots Q (F0 m pc ls (.ref (lo (zEl i j)) :: .int x :: .ref (lo (23, i, g)) :: rest)) := by
  obtain ⟨ws, q0, hq, hP, hD, hback⟩ := wd_set (S1 := pN S (23, i, g) 1 (j + 1)) hW hv (fun _ => rfl) (cl_pNr hW.2.1 hj hv2) (fun d hd => ct_pNn Γ lo S hd 1 (j + 1))
  have hq : ws[q0]? = some (lo (23, i, g), .inl (Γ.2.1 4, zN S (23, i, g) 0, .inr (.inr (.inr (.inr (zRf lo (zN S (23, i, g)) i)))))) := hq
  have e : ct Γ lo (pN S (23, i, g) 1 (j + 1)) (23, i, g) = .inl (Γ.2.1 4, zN S (23, i, g) 0, .inr (.inr (.inr (.inr (va_up (zRf lo (zN S (23, i, g)) i) x.toNatClampNeg (some (lo (zEl i j)))))))) := by
    rw [hx, zRf_up _ i j hj]
    show (.inl (Γ.2.1 4, zN (pN S (23, i, g) 1 (j + 1)) (23, i, g) 0, .inr (.inr (.inr (.inr (zRf lo (zN (pN S (23, i, g) 1 (j + 1)) (23, i, g)) i))))) : va_E) = _
    rw [zN_pN, if_pos rfl]
    rfl
  rw [e] at hback
  exact va_astqM hexec hb hKK.1 hP hD hS0 q0 4 (E := "java/lang/Object") hq rfl (el_any hKK hKY hW hv2) hin hdg (fun H1 locs1 hP1 hD1 hS1 => kk H1 locs1 (hback H1 hP1 hD1) hS1)
/-- a list's number, the link by the class itself -/
theorem g_putS (hexec : p.tables.exec = Jvm.exec) (hb : c.code = cc) {own ref : String} {index : Nat} {Ts : List Cond} (hts : ∀ w ∈ Ts, w.before args s = true) (hin : ∀ w ∈ wsJx4a65c0, w ∈ Ts) (hown : s.vm.findClass own = some m.cls) (hK : va_K Γ.1 vwCl (zTy Γ) s) (hW : Wd Γ lo S X H) (hS0 : va_S (zA Γ) H0 H locs) {i : Nat} (hv : zV S (0, i, 0) = true)
    (hlink : (Cond.fieldLink own index ref (TJx4a65c 0).2.1 (TJx4a65c 0).2.2.1).before args s = true) (hsame : ∀ x, s.fieldFound? (TJx4a65c 0).1 (TJx4a65c 0).2.1 (TJx4a65c 0).2.2.1 = some x → s.fieldFound? ref (TJx4a65c 0).2.1 (TJx4a65c 0).2.2.1 = some x) {v : Int32} (hdg : decode cc pc = .ok (.putfield index, 3))
    (kk : ∀ (H1 : Heap) (locs1 : List Loc), Wd Γ lo (pI S (0, i, 0) 0 v) X H1 → va_S (zA Γ) H0 H1 locs1 → W p l e R s m args below meth c H1 locs1 cells slots Q (F0 m (pc + 3) ls rest)) : W p l e R s m args below meth c H locs cells slots Q (F0 m pc ls (.int v :: .ref (lo (0, i, 0)) :: rest)) := by
  obtain ⟨ws, q0, hq, hP, hD, hback⟩ := wd_set (S1 := pI S (0, i, 0) 0 v) hW hv (fun _ => rfl) hW.2.1 (fun d hd => ct_pIn Γ lo S hd 0 v)
  have hq : ws[q0]? = some (lo (0, i, 0), .inr (0, [.int (zI S (0, i, 0) 0), zE Γ lo i (zN S (0, i, 0) 0), .int (zI S (0, i, 0) 2)])) := hq
  have e : ct Γ lo (pI S (0, i, 0) 0 v) (0, i, 0) = .inr (0, [.int v, zE Γ lo i (zN S (0, i, 0) 0), .int (zI S (0, i, 0) 2)]) := by
    rw [ct_pIs]
    rfl
  rw [e] at hback
  exact va_put hexec hb hts hin tyJx4a65c tyJx4a65c_ok nmJx4a65c hown hK hP hD hS0 q0 hq rfl 0 (by decide) hlink hsame rfl rfl rfl rfl (show 0 < 3 by decide) hdg (fun H1 locs1 hP1 hD1 hS1 => kk H1 locs1 (hback H1 hP1 hD1) hS1)
end ZA
abbrev rmJa_a : Room := { frames := 1, cells := 0, slots := 0, locals := 40 }
abbrev rmJa_b : Room := { frames := 1, cells := 1, slots := 64, locals := 60 }
abbrev rmJa_c : Room := { frames := 3, cells := 1, slots := 64, locals := 100 }
abbrev rmJa_d : Room := { frames := 4, cells := 1, slots := 64, locals := 140 }
abbrev rmJa_e : Room := { frames := 5, cells := 1, slots := 64, locals := 180 }
abbrev rmJa_f : Room := { frames := 6, cells := 1, slots := 64, locals := 220 }
theorem ni_Jx4a65c_grow_92f84 : ∀ w ∈ wsJx4a65c0, w ∈ wsJx4a65c_grow_92f84 := by decide +kernel
theorem ni_Jx4a65c_grow_d5877 : ∀ w ∈ wsJx4a65c0, w ∈ wsJx4a65c_grow_d5877 := by decide +kernel
theorem ni_Jx4a65c_add_72be8 : ∀ w ∈ wsJx4a65c0, w ∈ wsJx4a65c_add_72be8 := by decide +kernel
theorem ni_Jx4a65c_add_9ea2d : ∀ w ∈ wsJx4a65c0, w ∈ wsJx4a65c_add_9ea2d := by decide +kernel
theorem ar_1 : ∀ j < 44, 2 ≤ j → nI j + (if nI j + 1 - nI j < nI j >>> ((1 : Int32) &&& 31) then nI j >>> ((1 : Int32) &&& 31) else nI j + 1 - nI j) = nI (j + j / 2) := by decide +kernel
theorem ar_2 : ∀ j < 44, 2 ≤ j → ¬ nI (j + j / 2) ≤ 0 ∧ ¬ 2147483639 < nI (j + j / 2) ∧ nI j > 0 ∧ (nI (j + j / 2)).toNatClampNeg = j + j / 2 ∧ ¬ nI (j + j / 2) < 0 ∧ ¬ nI j < 0 ∧ (nI j).toNatClampNeg = j ∧ (if nI (j + j / 2) < nI j then nI (j + j / 2) else nI j) = nI j := by decide +kernel
theorem ar_3 : ∀ j < 65, (nI j).toNatClampNeg = j ∧ ¬ nI j < 0 := by decide +kernel
theorem ar_4 : ∀ j < 65, ∀ k < 65, nI j = nI k → j = k := by decide +kernel
theorem zRf_cpy (lo : zId → Nat) (N : Nat → Nat) (i j cap : Nat) (hj : N 1 = j) (c : zId) (q : Nat) (hc : ∀ k, zEl i k ≠ c) : va_cpy (zRf lo N i) (fun _ => none) 0 0 j = zRf (lu lo c q) (fun k => ([cap, j] : List Nat).getD k 0) i := by
  funext k
  by_cases h : k < j
  · rw [pk_cpy_in (Nat.zero_le k) (by omega)]
    rw [show 0 + (k - 0) = k by omega]
    show (if k < N 1 then some (lo (zEl i k)) else none) = if k < j then some (lu lo c q (zEl i k)) else none
    rw [if_pos (by omega), if_pos h, lu_n lo q (hc k)]
  · rw [pk_cpy_out (Or.inr (by omega))]
    show none = if k < j then some (lu lo c q (zEl i k)) else none
    rw [if_neg h]
theorem zEl_23 (i k g : Nat) : zEl i k ≠ (23, i, g) := by
  match i with
  | 0 => intro h; cases congrArg Prod.fst h
  | 1 => intro h; cases congrArg Prod.fst h
  | t + 2 => intro h; cases congrArg Prod.fst h
set_option maxHeartbeats 4000000 in
set_option maxRecDepth 100000 in
theorem tJ_nl (l : Launch) (Γ : zG) (lo : zId → Nat) (S : zSt) (X : va_W) {a b v r : Int32} (he : a + (if b < v then v else b) = r) (h1 : ¬ r ≤ 0) (h2 : ¬ 2147483639 < r) : Met l yJ8_newLength_cabcc wsJ8_newLength_cabcc rmJa_a (zP0 Γ lo S X [.int a, .int b, .int v]) (zQ0 Γ lo S S X (some (.int r)) True) 0 0 (zA Γ) := by
  refine Met.ofW (cc := cJ8_newLength_cabcc) (maxL := 4) (ret := (some .int)) (by decide) rfl ?_
  intro p e s m args below meth c s₁ B hml hv
  obtain ⟨rfl, hW, hKK⟩ := hv
  have hx := B.exec
  have hb := B.bytes
  have hr := B.returns
  have hts := atoms_spec (ws := wsJ8_newLength_cabcc) B.pre
  have hown : s.vm.findClass RJ8 = some m.cls := findClass_of_methodNamed B.named
  have hlocks := B.notSynchronized
  have hS : va_S (zA Γ) s.heap s.heap [] := va_S.rf
  have hB0 : Γ.2.2.1 ≤ s.heap.size := hW.1
  have hl := lv_entry ([.int a, .int b, .int v]) (n := 4) (Nat.le_of_ble_eq_true rfl)
  rw [lg_entry_eq]
  generalize (lg_sl ([.int a, .int b, .int v]) ++ List.replicate (4 - (lg_sl ([.int a, .int b, .int v])).length) Slot.unset).toArray = ls at hl ⊢
  have hl : lv_has ls 4 [(0, .int a), (1, .int b), (2, .int v)] := hl
  generalize ([.int a, .int b, .int v] : List Value).toArray = args at hts ⊢
  obtain ⟨H, hH0⟩ : ∃ H, H = s.heap := ⟨_, rfl⟩
  obtain ⟨locs, hlo0⟩ : ∃ L : List Loc, L = [] := ⟨_, rfl⟩
  have hS : va_S (zA Γ) s.heap H locs := by rw [hH0, hlo0]; exact hS
  have hW : Wd Γ lo S (X) H := by rw [hH0]; exact hW
  rw [← hH0, ← hlo0]
  have hm : ∀ c, zV S c = zV S c := fun _ => rfl
  refine lv_iload_n hx hb dJ8_newLength_cabcc_0 rfl (lv_at hl 0 rfl) ?_
  refine lv_iload_n hx hb dJ8_newLength_cabcc_1 rfl (lv_at hl 1 rfl) ?_
  refine lv_iload_n hx hb dJ8_newLength_cabcc_2 rfl (lv_at hl 2 rfl) ?_
  refine va_mmax hx hb (hml.trans hl.1.symm) hown (hts (.methodLink RJ8 194 Lib.Math.max.name) (List.mem_of_getElem? (i := 1) rfl)) (hts (.static Lib.Math.max.name) (List.mem_of_getElem? (i := 2) rfl)) (hts (.initialized "java/lang/Math") (List.mem_of_getElem? (i := 3) rfl)) (hts (.code Lib.Math.max.name Lib.Math.max.code 2 (some .int)) (List.mem_of_getElem? (i := 4) rfl)) (by decide) (Nat.le_of_ble_eq_true rfl) (Nat.zero_le _) (Nat.zero_le _) dJ8_newLength_cabcc_3 ?_
  refine lv_iadd hx hb dJ8_newLength_cabcc_6 ?_
  refine z_istn (lv' := [(3, .int r), (0, .int a), (1, .int b), (2, .int v)]) he.symm hx hb dJ8_newLength_cabcc_7 rfl hl (by decide) rfl (fun ls hl => ?_)
  refine lv_iconst (v := (0)) hx hb dJ8_newLength_cabcc_8 (by decide) ?_
  refine lv_iload_n hx hb dJ8_newLength_cabcc_9 rfl (lv_at hl 0 rfl) ?_
  refine lv_icmp_ge (tgt := 21) hx hb dJ8_newLength_cabcc_10 (by decide) (fun k => absurd k h1) (fun k => ?_)
  refine lv_iload_n hx hb dJ8_newLength_cabcc_13 rfl (lv_at hl 0 rfl) ?_
  refine lv_ldc (v := 2147483639) hx hb hown (hts (.constant RJ8 200 (2147483639)) (List.mem_of_getElem? (i := 5) rfl)) dJ8_newLength_cabcc_14 ?_
  refine lv_icmp_gt (tgt := 21) hx hb dJ8_newLength_cabcc_16 (by decide) (fun k => absurd k h2) (fun k => ?_)
  refine lv_iload_n hx hb dJ8_newLength_cabcc_19 rfl (lv_at hl 0 rfl) ?_
  exact z_iret hx hb hr hlocks rfl hW hS hm trivial dJ8_newLength_cabcc_20
set_option maxHeartbeats 4000000 in
set_option maxRecDepth 100000 in
theorem tJ_c3 (l : Launch) (Γ : zG) (lo : zId → Nat) (S : zSt) (X : va_W) {i g cap j mi : Nat} {n : Int32} (v_r : zV S (23, i, g) = true) (hN : n.toNatClampNeg = cap) (h0 : ¬ n < 0) (hcap : cap ≤ 64) (hj : zN S (23, i, g) 0 = j) (hjn : j ≤ cap) (h1 : ¬ nI j < 0) (h2 : (nI j).toNatClampNeg = j) (hmin : (if n < nI j then n else nI j) = nI j) : Met l yJ7_copyOf_6403c wsJ7_copyOf_6403c rmJa_b (zPm Γ lo S X mi [.ref (lo (23, i, g)), .int n, .ref mi]) (zQc Γ lo S X (zRw Γ cap (va_cpy (zRf lo (zN S (23, i, g)) i) (fun _ => none) 0 0 j))) 1 64 (zA Γ) := by
  refine Met.ofW (cc := cJ7_copyOf_6403c) (maxL := 4) (ret := (some (.array (.object "java/lang/Object")))) (by decide) rfl ?_
  intro p e s m args below meth c s₁ B hml hv
  obtain ⟨rfl, hW, hKK, hKY, hMi⟩ := hv
  have hx := B.exec
  have hb := B.bytes
  have hr := B.returns
  have hts := atoms_spec (ws := wsJ7_copyOf_6403c) B.pre
  have hown : s.vm.findClass RJ7 = some m.cls := findClass_of_methodNamed B.named
  have hlocks := B.notSynchronized
  have hS : va_S (zA Γ) s.heap s.heap [] := va_S.rf
  have hB0 : Γ.2.2.1 ≤ s.heap.size := hW.1
  have hl := lv_entry ([.ref (lo (23, i, g)), .int n, .ref mi]) (n := 4) (Nat.le_of_ble_eq_true rfl)
  rw [lg_entry_eq]
  generalize (lg_sl ([.ref (lo (23, i, g)), .int n, .ref mi]) ++ List.replicate (4 - (lg_sl ([.ref (lo (23, i, g)), .int n, .ref mi])).length) Slot.unset).toArray = ls at hl ⊢
  have hl : lv_has ls 4 [(0, .ref (lo (23, i, g))), (1, .int n), (2, .ref mi)] := hl
  generalize ([.ref (lo (23, i, g)), .int n, .ref mi] : List Value).toArray = args at hts ⊢
  obtain ⟨H, hH0⟩ : ∃ H, H = s.heap := ⟨_, rfl⟩
  obtain ⟨locs, hlo0⟩ : ∃ L : List Loc, L = [] := ⟨_, rfl⟩
  have hS : va_S (zA Γ) s.heap H locs := by rw [hH0, hlo0]; exact hS
  have hW : Wd Γ lo S (X) H := by rw [hH0]; exact hW
  rw [← hH0, ← hlo0]
  refine lv_aload_n hx hb dJ7_copyOf_6403c_0 rfl (lv_at hl 2 rfl) ?_
  refine va_ldcM hx hb hown (hts (.classLink RJ7 110 "[Ljava/lang/Object;") (List.mem_of_getElem? (i := 1) rfl)) hMi dJ7_copyOf_6403c_1 ?_
  refine lv_acmp_ne (rx := some mi) (ry := some mi) (tgt := 13) hx hb dJ7_copyOf_6403c_3 (by decide) (fun k => absurd rfl k) (fun _ => ?_)
  refine lv_iload_n hx hb dJ7_copyOf_6403c_6 rfl (lv_at hl 1 rfl) ?_
  refine n_newq (kA := 4) (C := "java/lang/Object") (N' := cap) hx hb hown (hts (.classLink RJ7 2 "java/lang/Object") (List.mem_of_getElem? (i := 2) rfl)) hKY.2.1.1 hKK.1 rfl hW hS hB0 h0 hN (by omega) (Nat.le_of_ble_eq_true rfl) (show 0 + cap ≤ 64 by omega) dJ7_copyOf_6403c_7 (fun q H hW hS => ?_)
  refine lv_goto (tgt := 24) hx hb dJ7_copyOf_6403c_10 (by decide) ?_
  refine lv_astore_n (lv' := [(3, .ref q), (0, .ref (lo (23, i, g))), (1, .int n), (2, .ref mi)]) hx hb dJ7_copyOf_6403c_24 rfl hl (by decide) rfl (fun ls hl => ?_)
  refine lv_aload_n hx hb dJ7_copyOf_6403c_25 rfl (lv_at hl 1 rfl) ?_
  refine lv_iconst (v := (0)) hx hb dJ7_copyOf_6403c_26 (by decide) ?_
  refine lv_aload_n hx hb dJ7_copyOf_6403c_27 rfl (lv_at hl 0 rfl) ?_
  refine lv_iconst (v := (0)) hx hb dJ7_copyOf_6403c_28 (by decide) ?_
  refine lv_aload_n hx hb dJ7_copyOf_6403c_29 rfl (lv_at hl 1 rfl) ?_
  refine va_alen (v := nI j) hx hb hKK.1 (wd_1 hW v_r) 0 4 rfl rfl (show Int32.ofNat (zN S (23, i, g) 0) = nI j by rw [hj]; rfl) dJ7_copyOf_6403c_30 ?_
  refine lv_iload_n hx hb dJ7_copyOf_6403c_31 rfl (lv_at hl 2 rfl) ?_
  refine va_mmin hx hb (hml.trans hl.1.symm) hown (hts (.methodLink RJ7 304 Lib.Math.min.name) (List.mem_of_getElem? (i := 3) rfl)) (hts (.static Lib.Math.min.name) (List.mem_of_getElem? (i := 4) rfl)) (hts (.initialized "java/lang/Math") (List.mem_of_getElem? (i := 5) rfl)) (hts (.code Lib.Math.min.name Lib.Math.min.code 2 (some .int)) (List.mem_of_getElem? (i := 6) rfl)) (by decide) (Nat.le_of_ble_eq_true rfl) (Nat.le_of_ble_eq_true rfl) (show 0 + cap ≤ 64 by omega) dJ7_copyOf_6403c_32 ?_
  rw [hmin]
  refine c_copy (n := nI j) hx hb (hml.trans hl.1.symm) hown (hts (.methodLink RJ7 150 arraycopyName) (List.mem_of_getElem? (i := 7) rfl)) (hts (.native arraycopyName) (List.mem_of_getElem? (i := 8) rfl)) (hts (.static arraycopyName) (List.mem_of_getElem? (i := 9) rfl)) (hts (.initialized "java/lang/System") (List.mem_of_getElem? (i := 10) rfl)) hKK hKY hW hS v_r h1 (by rw [h2, hj]; exact Nat.le_refl _) (by rw [h2]; exact hjn) (by decide) (by decide) dJ7_copyOf_6403c_35 (fun H locs hW hS => ?_)
  rw [h2] at hW
  refine lv_aload_n hx hb dJ7_copyOf_6403c_38 rfl (lv_at hl 0 rfl) ?_
  exact c_aret hx hb hr (Or.inr ⟨_, rfl⟩) hlocks (Nat.le_of_ble_eq_true rfl) (show 0 + cap ≤ 64 by omega) hW hS dJ7_copyOf_6403c_39
set_option maxHeartbeats 4000000 in
set_option maxRecDepth 100000 in
theorem tJ_c2 (l : Launch) (Γ : zG) (lo : zId → Nat) (S : zSt) (X : va_W) {i g cap j : Nat} {n : Int32} (v_r : zV S (23, i, g) = true) (hN : n.toNatClampNeg = cap) (h0 : ¬ n < 0) (hcap : cap ≤ 64) (hj : zN S (23, i, g) 0 = j) (hjn : j ≤ cap) (h1 : ¬ nI j < 0) (h2 : (nI j).toNatClampNeg = j) (hmin : (if n < nI j then n else nI j) = nI j) : Met l yJ7_copyOf_1904c wsJ7_copyOf_1904c rmJa_c (zP2 Γ lo S X [.ref (lo (23, i, g)), .int n]) (zQc Γ lo S X (zRw Γ cap (va_cpy (zRf lo (zN S (23, i, g)) i) (fun _ => none) 0 0 j))) 1 64 (zA Γ) := by
  refine Met.ofW (cc := cJ7_copyOf_1904c) (maxL := 2) (ret := (some (.array (.object "java/lang/Object")))) (by decide) rfl ?_
  intro p e s m args below meth c s₁ B hml hv
  obtain ⟨rfl, hW, hKK, hKY⟩ := hv
  have hx := B.exec
  have hb := B.bytes
  have hr := B.returns
  have hts := atoms_spec (ws := wsJ7_copyOf_1904c) B.pre
  have hown : s.vm.findClass RJ7 = some m.cls := findClass_of_methodNamed B.named
  have hlocks := B.notSynchronized
  have hS : va_S (zA Γ) s.heap s.heap [] := va_S.rf
  have hB0 : Γ.2.2.1 ≤ s.heap.size := hW.1
  have hl := lv_entry ([.ref (lo (23, i, g)), .int n]) (n := 2) (Nat.le_of_ble_eq_true rfl)
  rw [lg_entry_eq]
  generalize (lg_sl ([.ref (lo (23, i, g)), .int n]) ++ List.replicate (2 - (lg_sl ([.ref (lo (23, i, g)), .int n])).length) Slot.unset).toArray = ls at hl ⊢
  have hl : lv_has ls 2 [(0, .ref (lo (23, i, g))), (1, .int n)] := hl
  generalize ([.ref (lo (23, i, g)), .int n] : List Value).toArray = args at hts ⊢
  obtain ⟨H, hH0⟩ : ∃ H, H = s.heap := ⟨_, rfl⟩
  obtain ⟨locs, hlo0⟩ : ∃ L : List Loc, L = [] := ⟨_, rfl⟩
  have hS : va_S (zA Γ) s.heap H locs := by rw [hH0, hlo0]; exact hS
  have hW : Wd Γ lo S (X) H := by rw [hH0]; exact hW
  rw [← hH0, ← hlo0]
  obtain ⟨mi, hMi⟩ := hKK.2.2.2.2.2.1
  refine lv_aload_n hx hb dJ7_copyOf_1904c_0 rfl (lv_at hl 0 rfl) ?_
  refine lv_iload_n hx hb dJ7_copyOf_1904c_1 rfl (lv_at hl 1 rfl) ?_
  refine lv_aload_n hx hb dJ7_copyOf_1904c_2 rfl (lv_at hl 0 rfl) ?_
  refine va_getC (C := "[Ljava/lang/Object;") hx hb (hml.trans hl.1.symm) hown (hts (.methodLink RJ7 86 ⟨"java/lang/Object", "getClass", "()Ljava/lang/Class;"⟩) (List.mem_of_getElem? (i := 1) rfl)) (va_Dc.use hKK.2.2.2.2.2.2) (hts (.selects "[Ljava/lang/Object;" ⟨"java/lang/Object", "getClass", "()Ljava/lang/Class;"⟩ ⟨"java/lang/Object", "getClass", "()Ljava/lang/Class;"⟩) (List.mem_of_getElem? (i := 2) rfl)) (hts (.instanceMethod ⟨"java/lang/Object", "getClass", "()Ljava/lang/Class;"⟩) (List.mem_of_getElem? (i := 3) rfl)) (hts (.native ⟨"java/lang/Object", "getClass", "()Ljava/lang/Class;"⟩) (List.mem_of_getElem? (i := 4) rfl)) hMi ⟨_, (wd_1 hW v_r) 0 _ rfl, rfl, va_nmO (hKK.1.2 4 _ rfl).2 (by decide)⟩ (by decide) (Nat.le_of_ble_eq_true rfl) dJ7_copyOf_1904c_3 ?_
  refine c_go (rest := []) (va_runS (As := [.ref (lo (23, i, g)), .int n, .ref mi]) ⟨hx, hb, hml, hown, hts⟩ (tJ_c3 l Γ lo S X v_r hN h0 hcap hj hjn h1 h2 hmin) (va_cwS 3 hts gJ7_copyOf_1904c_J7_copyOf_6403c rfl rfl rfl (by decide +kernel) ⟨Nat.le_of_ble_eq_true rfl, Nat.le_of_ble_eq_true rfl⟩) ⟨fun _ _ _ _ q => q, fun _ hU hW1 => ⟨rfl, by rw [hU]; exact hW, hKK.go hS hU hW1, hKY.go hW1, hMi.moved hW1.alike⟩⟩ rfl rfl hl.1 rfl (lv_room (Nat.le_of_ble_eq_true rfl)) dJ7_copyOf_1904c_6 ⟨Nat.le_of_ble_eq_true rfl, Nat.le_of_ble_eq_true rfl⟩) hS (fun q H locs hW hS => ?_)
  exact c_aret hx hb hr (Or.inr ⟨_, rfl⟩) hlocks (Nat.le_of_ble_eq_true rfl) (Nat.le_of_ble_eq_true rfl) hW hS dJ7_copyOf_1904c_9
set_option maxHeartbeats 4000000 in
set_option maxRecDepth 100000 in
theorem tJ_gr0 (l : Launch) (Γ : zG) (lo : zId → Nat) (S : zSt) (X : va_W) {i : Nat} (v_z : zV S (0, i, 0) = true) (hg : zN S (0, i, 0) 0 = 0) (hv : zV S (23, i, 1) = false) (hz : zI S (0, i, 0) 2 = 0) : Met l yJx4a65c_grow_92f84 wsJx4a65c_grow_92f84 rmJa_d (zP2 Γ lo S X [.ref (lo (0, i, 0)), .int (1 : Int32)]) (zQn Γ lo S (pN (nw S (23, i, 1) (fun _ => 0) (fun _ => 0) (fun _ => none) (fun k => ([10, 0] : List Nat).getD k 0)) (0, i, 0) 0 1) X (fun lo1 => some (.ref (lo1 (23, i, 1)))) (fun _ => zV (pN (nw S (23, i, 1) (fun _ => 0) (fun _ => 0) (fun _ => none) (fun k => ([10, 0] : List Nat).getD k 0)) (0, i, 0) 0 1) (23, i, 1) = true)) 1 64 (zA Γ) := by
  refine Met.ofW (cc := cJx4a65c_grow_92f84) (maxL := 4) (ret := (some (.array (.object "java/lang/Object")))) (by decide) rfl ?_
  intro p e s m args below meth c s₁ B hml hv
  obtain ⟨rfl, hW, hKK, hKY⟩ := hv
  have hx := B.exec
  have hb := B.bytes
  have hr := B.returns
  have hts := atoms_spec (ws := wsJx4a65c_grow_92f84) B.pre
  have hown : s.vm.findClass RJx4a65c = some m.cls := findClass_of_methodNamed B.named
  have hlocks := B.notSynchronized
  have hS : va_S (zA Γ) s.heap s.heap [] := va_S.rf
  have hB0 : Γ.2.2.1 ≤ s.heap.size := hW.1
  have hl := lv_entry ([.ref (lo (0, i, 0)), .int (1 : Int32)]) (n := 4) (Nat.le_of_ble_eq_true rfl)
  rw [lg_entry_eq]
  generalize (lg_sl ([.ref (lo (0, i, 0)), .int (1 : Int32)]) ++ List.replicate (4 - (lg_sl ([.ref (lo (0, i, 0)), .int (1 : Int32)])).length) Slot.unset).toArray = ls at hl ⊢
  have hl : lv_has ls 4 [(0, .ref (lo (0, i, 0))), (1, .int (1 : Int32))] := hl
  generalize ([.ref (lo (0, i, 0)), .int (1 : Int32)] : List Value).toArray = args at hts ⊢
  obtain ⟨H, hH0⟩ : ∃ H, H = s.heap := ⟨_, rfl⟩
  obtain ⟨locs, hlo0⟩ : ∃ L : List Loc, L = [] := ⟨_, rfl⟩
  have hS : va_S (zA Γ) s.heap H locs := by rw [hH0, hlo0]; exact hS
  have hW : Wd Γ lo S (X) H := by rw [hH0]; exact hW
  rw [← hH0, ← hlo0]
  have hze : zE Γ lo i (zN S (0, i, 0) 0) = .ref Γ.2.2.2 := by unfold zE; rw [if_pos hg]
  refine lv_aload_n hx hb dJx4a65c_grow_92f84_0 rfl (lv_at hl 0 rfl) ?_
  refine va_get hx hb hts ni_Jx4a65c_grow_92f84 hown hKK.1 (wd_1 hW v_z) 0 rfl rfl 1 (by decide) (hts (.fieldLink RJx4a65c 9 "java/util/ArrayList" "elementData" "[Ljava/lang/Object;") (List.mem_of_getElem? (i := 1) rfl)) (fun _ h => h) rfl dJx4a65c_grow_92f84_1 ?_
  rw [hze]
  refine va_tlen (v := 0) hx hb hKK.2.2.1 hS (by decide) dJx4a65c_grow_92f84_4 ?_
  refine z_istn (lv' := [(2, .int (0)), (0, .ref (lo (0, i, 0))), (1, .int (1 : Int32))]) rfl hx hb dJx4a65c_grow_92f84_5 rfl hl (by decide) rfl (fun ls hl => ?_)
  refine lv_iload_n hx hb dJx4a65c_grow_92f84_6 rfl (lv_at hl 0 rfl) ?_
  refine lv_if_gt (tgt := 20) hx hb dJx4a65c_grow_92f84_7 (by decide) (fun k => absurd k (by decide)) (fun _ => ?_)
  refine lv_aload_n hx hb dJx4a65c_grow_92f84_10 rfl (lv_at hl 1 rfl) ?_
  refine va_get hx hb hts ni_Jx4a65c_grow_92f84 hown hKK.1 (wd_1 hW v_z) 0 rfl rfl 1 (by decide) (hts (.fieldLink RJx4a65c 9 "java/util/ArrayList" "elementData" "[Ljava/lang/Object;") (List.mem_of_getElem? (i := 1) rfl)) (fun _ h => h) rfl dJx4a65c_grow_92f84_11 ?_
  rw [hze]
  refine va_gets hx hb hKK.2.1 hS hown (hts (.fieldLink RJx4a65c 39 "java/util/ArrayList" "DEFAULTCAPACITY_EMPTY_ELEMENTDATA" "[Ljava/lang/Object;") (List.mem_of_getElem? (i := 2) rfl)) (fun _ h => h) dJx4a65c_grow_92f84_14 ?_
  refine lv_acmp_eq (rx := some Γ.2.2.2) (ry := some Γ.2.2.2) (tgt := 45) hx hb dJx4a65c_grow_92f84_17 (by decide) (fun _ => ?_) (fun k => absurd rfl k)
  refine lv_aload_n hx hb dJx4a65c_grow_92f84_45 rfl (lv_at hl 1 rfl) ?_
  refine lv_bipush (v := (10)) hx hb dJx4a65c_grow_92f84_46 (by decide) ?_
  refine lv_iload_n hx hb dJx4a65c_grow_92f84_48 rfl (lv_at hl 2 rfl) ?_
  refine va_mmax hx hb (hml.trans hl.1.symm) hown (hts (.methodLink RJx4a65c 79 Lib.Math.max.name) (List.mem_of_getElem? (i := 3) rfl)) (hts (.static Lib.Math.max.name) (List.mem_of_getElem? (i := 4) rfl)) (hts (.initialized "java/lang/Math") (List.mem_of_getElem? (i := 5) rfl)) (hts (.code Lib.Math.max.name Lib.Math.max.code 2 (some .int)) (List.mem_of_getElem? (i := 6) rfl)) (by decide) (Nat.le_of_ble_eq_true rfl) (Nat.zero_le _) (Nat.zero_le _) dJx4a65c_grow_92f84_49 ?_
  rw [show (if (10 : Int32) < 1 then (1 : Int32) else 10) = 10 by decide]
  refine n_newq (kA := 4) (C := "java/lang/Object") (N' := 10) hx hb hown (hts (.classLink RJx4a65c 7 "java/lang/Object") (List.mem_of_getElem? (i := 7) rfl)) hKY.2.1.1 hKK.1 rfl hW hS hB0 (by decide) (by decide) (by omega) (Nat.le_of_ble_eq_true rfl) (Nat.le_of_ble_eq_true rfl) dJx4a65c_grow_92f84_52 (fun q H hW hS => ?_)
  have hne : ∀ d, zV S d = true → d ≠ (23, i, 1) := fun d hd e => by rw [e, hv] at hd; cases hd
  have hW := wd_name hW (23, i, 1) hv (fun _ => 0) (fun _ => 0) (fun _ => none) (fun k => ([10, 0] : List Nat).getD k 0) (congrArg (fun f => (.inl (Γ.2.1 4, 10, .inr (.inr (.inr (.inr f)))) : va_E)) (funext fun z => (if_neg (Nat.not_lt_zero z)).symm)) (fun d hd => by obtain ⟨z, hz, _⟩ := hd; rw [zN_nw, if_pos rfl] at hz; exact absurd hz (Nat.not_lt_zero z))
  have h1 : ∀ d, zV S d = true → lu lo (23, i, 1) q d = lo d := fun d hd => lu_n lo q (hne d hd)
  have hEq : lu lo (23, i, 1) q (23, i, 1) = q := lu_s lo _ _
  generalize lu lo (23, i, 1) q = lo1 at hW h1 hEq
  rw [← hEq, ← h1 (0, i, 0) v_z]
  refine lv_dup_x1 hx hb dJx4a65c_grow_92f84_55 rfl rfl ?_
  refine g_putE (i := i) (g := 1) hx hb hts ni_Jx4a65c_grow_92f84 hown hKK.1 hW hS (zV_nwm S (23, i, 1) (fun _ => 0) (fun _ => 0) (fun _ => none) (fun k => ([10, 0] : List Nat).getD k 0) _ v_z) (by decide) (zV_nws S (23, i, 1) (fun _ => 0) (fun _ => 0) (fun _ => none) (fun k => ([10, 0] : List Nat).getD k 0)) (hts (.fieldLink RJx4a65c 9 "java/util/ArrayList" "elementData" "[Ljava/lang/Object;") (List.mem_of_getElem? (i := 1) rfl)) dJx4a65c_grow_92f84_56 (fun H locs hW hS => ?_)
  exact n_aret hx hb hr (Or.inr ⟨_, rfl⟩) hlocks (Nat.le_of_ble_eq_true rfl) (Nat.le_of_ble_eq_true rfl) rfl hW hS h1 (fun d hd => zV_nwm S (23, i, 1) (fun _ => 0) (fun _ => 0) (fun _ => none) (fun k => ([10, 0] : List Nat).getD k 0) d hd) (zV_nws S (23, i, 1) (fun _ => 0) (fun _ => 0) (fun _ => none) (fun k => ([10, 0] : List Nat).getD k 0)) dJx4a65c_grow_92f84_59
set_option maxHeartbeats 4000000 in
set_option maxRecDepth 100000 in
theorem tJ_gs0 (l : Launch) (Γ : zG) (lo : zId → Nat) (S : zSt) (X : va_W) {i : Nat} (v_z : zV S (0, i, 0) = true) (hg : zN S (0, i, 0) 0 = 0) (hv : zV S (23, i, 1) = false) (hz : zI S (0, i, 0) 2 = 0) : Met l yJx4a65c_grow_d5877 wsJx4a65c_grow_d5877 rmJa_e (zP2 Γ lo S X [.ref (lo (0, i, 0))]) (zQn Γ lo S (pN (nw S (23, i, 1) (fun _ => 0) (fun _ => 0) (fun _ => none) (fun k => ([10, 0] : List Nat).getD k 0)) (0, i, 0) 0 1) X (fun lo1 => some (.ref (lo1 (23, i, 1)))) (fun _ => zV (pN (nw S (23, i, 1) (fun _ => 0) (fun _ => 0) (fun _ => none) (fun k => ([10, 0] : List Nat).getD k 0)) (0, i, 0) 0 1) (23, i, 1) = true)) 1 64 (zA Γ) := by
  refine Met.ofW (cc := cJx4a65c_grow_d5877) (maxL := 1) (ret := (some (.array (.object "java/lang/Object")))) (by decide) rfl ?_
  intro p e s m args below meth c s₁ B hml hv
  obtain ⟨rfl, hW, hKK, hKY⟩ := hv
  have hx := B.exec
  have hb := B.bytes
  have hr := B.returns
  have hts := atoms_spec (ws := wsJx4a65c_grow_d5877) B.pre
  have hown : s.vm.findClass RJx4a65c = some m.cls := findClass_of_methodNamed B.named
  have hlocks := B.notSynchronized
  have hS : va_S (zA Γ) s.heap s.heap [] := va_S.rf
  have hB0 : Γ.2.2.1 ≤ s.heap.size := hW.1
  have hl := lv_entry ([.ref (lo (0, i, 0))]) (n := 1) (Nat.le_of_ble_eq_true rfl)
  rw [lg_entry_eq]
  generalize (lg_sl ([.ref (lo (0, i, 0))]) ++ List.replicate (1 - (lg_sl ([.ref (lo (0, i, 0))])).length) Slot.unset).toArray = ls at hl ⊢
  have hl : lv_has ls 1 [(0, .ref (lo (0, i, 0)))] := hl
  generalize ([.ref (lo (0, i, 0))] : List Value).toArray = args at hts ⊢
  obtain ⟨H, hH0⟩ : ∃ H, H = s.heap := ⟨_, rfl⟩
  obtain ⟨locs, hlo0⟩ : ∃ L : List Loc, L = [] := ⟨_, rfl⟩
  have hS : va_S (zA Γ) s.heap H locs := by rw [hH0, hlo0]; exact hS
  have hW : Wd Γ lo S (X) H := by rw [hH0]; exact hW
  rw [← hH0, ← hlo0]
  refine lv_aload_n hx hb dJx4a65c_grow_d5877_0 rfl (lv_at hl 0 rfl) ?_
  refine lv_aload_n hx hb dJx4a65c_grow_d5877_1 rfl (lv_at hl 0 rfl) ?_
  refine va_get hx hb hts ni_Jx4a65c_grow_d5877 hown hKK.1 (wd_1 hW v_z) 0 rfl rfl 2 (by decide) (hts (.fieldLink RJx4a65c 48 "java/util/ArrayList" "size" "I") (List.mem_of_getElem? (i := 1) rfl)) (fun _ h => h) rfl dJx4a65c_grow_d5877_2 ?_
  rw [hz]
  refine lv_iconst (v := (1)) hx hb dJx4a65c_grow_d5877_5 (by decide) ?_
  refine lv_iadd hx hb dJx4a65c_grow_d5877_6 ?_
  refine n_callV (As := [.int (1 : Int32)]) (rest := []) ⟨hx, hb, hml, hown, hts⟩ (tJ_gr0 l Γ lo S X v_z hg hv hz) (cwV 1 hts gJx4a65c_grow_d5877_Jx4a65c_grow_92f84 rfl rfl rfl (by decide +kernel) ⟨Nat.le_of_ble_eq_true rfl, Nat.le_of_ble_eq_true rfl⟩) (wd_1 hW v_z) rfl hKK hKY hW hS rfl hl.1 rfl (Nat.le_of_ble_eq_true rfl) dJx4a65c_grow_d5877_7 ⟨Nat.le_of_ble_eq_true rfl, Nat.le_of_ble_eq_true rfl⟩ (fun lo1 H locs hW hS h1 hmo hE => ?_)
  exact n_aret hx hb hr (Or.inr ⟨_, rfl⟩) hlocks (Nat.le_of_ble_eq_true rfl) (Nat.le_of_ble_eq_true rfl) rfl hW hS h1 hmo hE dJx4a65c_grow_d5877_10
set_option maxHeartbeats 4000000 in
set_option maxRecDepth 100000 in
theorem tJ_gr1 (l : Launch) (Γ : zG) (lo : zId → Nat) (S : zSt) (X : va_W) {i g j : Nat} (v_z : zV S (0, i, 0) = true) (hg : zN S (0, i, 0) 0 = g) (hg0 : g ≠ 0) (hj0 : zN S (23, i, g) 0 = j) (hj1 : zN S (23, i, g) 1 = j) (h2j : 2 ≤ j) (hjc : j + j / 2 ≤ 64) (hv : zV S (23, i, g + 1) = false) (hz : zI S (0, i, 0) 2 = nI j) : Met l yJx4a65c_grow_92f84 wsJx4a65c_grow_92f84 rmJa_d (zP2 Γ lo S X [.ref (lo (0, i, 0)), .int (nI j + 1)]) (zQn Γ lo S (pN (nw S (23, i, g + 1) (fun _ => 0) (fun _ => 0) (fun _ => none) (fun k => ([j + j / 2, j] : List Nat).getD k 0)) (0, i, 0) 0 (g + 1)) X (fun lo1 => some (.ref (lo1 (23, i, (g + 1))))) (fun _ => zV (pN (nw S (23, i, g + 1) (fun _ => 0) (fun _ => 0) (fun _ => none) (fun k => ([j + j / 2, j] : List Nat).getD k 0)) (0, i, 0) 0 (g + 1)) (23, i, (g + 1)) = true)) 1 64 (zA Γ) := by
  refine Met.ofW (cc := cJx4a65c_grow_92f84) (maxL := 4) (ret := (some (.array (.object "java/lang/Object")))) (by decide) rfl ?_
  intro p e s m args below meth c s₁ B hml hv
  obtain ⟨rfl, hW, hKK, hKY⟩ := hv
  have hx := B.exec
  have hb := B.bytes
  have hr := B.returns
  have hts := atoms_spec (ws := wsJx4a65c_grow_92f84) B.pre
  have hown : s.vm.findClass RJx4a65c = some m.cls := findClass_of_methodNamed B.named
  have hlocks := B.notSynchronized
  have hS : va_S (zA Γ) s.heap s.heap [] := va_S.rf
  have hB0 : Γ.2.2.1 ≤ s.heap.size := hW.1
  have hl := lv_entry ([.ref (lo (0, i, 0)), .int (nI j + 1)]) (n := 4) (Nat.le_of_ble_eq_true rfl)
  rw [lg_entry_eq]
  generalize (lg_sl ([.ref (lo (0, i, 0)), .int (nI j + 1)]) ++ List.replicate (4 - (lg_sl ([.ref (lo (0, i, 0)), .int (nI j + 1)])).length) Slot.unset).toArray = ls at hl ⊢
  have hl : lv_has ls 4 [(0, .ref (lo (0, i, 0))), (1, .int (nI j + 1))] := hl
  generalize ([.ref (lo (0, i, 0)), .int (nI j + 1)] : List Value).toArray = args at hts ⊢
  obtain ⟨H, hH0⟩ : ∃ H, H = s.heap := ⟨_, rfl⟩
  obtain ⟨locs, hlo0⟩ : ∃ L : List Loc, L = [] := ⟨_, rfl⟩
  have hS : va_S (zA Γ) s.heap H locs := by rw [hH0, hlo0]; exact hS
  have hW : Wd Γ lo S (X) H := by rw [hH0]; exact hW
  rw [← hH0, ← hlo0]
  have hze : zE Γ lo i (zN S (0, i, 0) 0) = .ref (lo (23, i, g)) := by unfold zE; rw [hg, if_neg hg0]
  have v_r : zV S (23, i, g) = true := hW.2.1 (0, i, 0) _ v_z ⟨by rw [hg]; exact hg0, by rw [hg]⟩
  have hW0 := hW
  have ar := ar_2 j (by omega) h2j
  refine lv_aload_n hx hb dJx4a65c_grow_92f84_0 rfl (lv_at hl 0 rfl) ?_
  refine va_get hx hb hts ni_Jx4a65c_grow_92f84 hown hKK.1 (wd_1 hW v_z) 0 rfl rfl 1 (by decide) (hts (.fieldLink RJx4a65c 9 "java/util/ArrayList" "elementData" "[Ljava/lang/Object;") (List.mem_of_getElem? (i := 1) rfl)) (fun _ h => h) rfl dJx4a65c_grow_92f84_1 ?_
  rw [hze]
  refine va_alen (v := nI j) hx hb hKK.1 (wd_1 hW v_r) 0 4 rfl rfl (show Int32.ofNat (zN S (23, i, g) 0) = nI j by rw [hj0]; rfl) dJx4a65c_grow_92f84_4 ?_
  refine z_istn (lv' := [(2, .int (nI j)), (0, .ref (lo (0, i, 0))), (1, .int (nI j + 1))]) rfl hx hb dJx4a65c_grow_92f84_5 rfl hl (by decide) rfl (fun ls hl => ?_)
  refine lv_iload_n hx hb dJx4a65c_grow_92f84_6 rfl (lv_at hl 0 rfl) ?_
  refine lv_if_gt (tgt := 20) hx hb dJx4a65c_grow_92f84_7 (by decide) (fun _ => ?_) (fun k => absurd ar.2.2.1 k)
  refine lv_iload_n hx hb dJx4a65c_grow_92f84_20 rfl (lv_at hl 0 rfl) ?_
  refine lv_iload_n hx hb dJx4a65c_grow_92f84_21 rfl (lv_at hl 2 rfl) ?_
  refine lv_iload_n hx hb dJx4a65c_grow_92f84_22 rfl (lv_at hl 0 rfl) ?_
  refine lv_isub hx hb dJx4a65c_grow_92f84_23 ?_
  refine lv_iload_n hx hb dJx4a65c_grow_92f84_24 rfl (lv_at hl 0 rfl) ?_
  refine lv_iconst (v := (1)) hx hb dJx4a65c_grow_92f84_25 (by decide) ?_
  refine lv_ishr hx hb dJx4a65c_grow_92f84_26 ?_
  refine z_callS (As := [.int (nI j), .int (nI j + 1 - nI j), .int (nI j >>> ((1 : Int32) &&& 31))]) (rest := []) ⟨hx, hb, hml, hown, hts⟩ (tJ_nl l Γ lo S X (ar_1 j (by omega) h2j) ar.1 ar.2.1) (va_cwS 3 hts gJx4a65c_grow_92f84_J8_newLength_cabcc rfl rfl rfl (by decide +kernel) ⟨Nat.le_of_ble_eq_true rfl, Nat.le_of_ble_eq_true rfl⟩) hKK hW hS rfl hl.1 rfl (Nat.le_of_ble_eq_true rfl) dJx4a65c_grow_92f84_27 ⟨Nat.le_of_ble_eq_true rfl, Nat.le_of_ble_eq_true rfl⟩ (fun H locs hW hS _ _ => ?_)
  refine z_istn (lv' := [(3, .int (nI (j + j / 2))), (2, .int (nI j)), (0, .ref (lo (0, i, 0))), (1, .int (nI j + 1))]) rfl hx hb dJx4a65c_grow_92f84_30 rfl hl (by decide) rfl (fun ls hl => ?_)
  refine lv_aload_n hx hb dJx4a65c_grow_92f84_31 rfl (lv_at hl 2 rfl) ?_
  refine lv_aload_n hx hb dJx4a65c_grow_92f84_32 rfl (lv_at hl 2 rfl) ?_
  refine va_get hx hb hts ni_Jx4a65c_grow_92f84 hown hKK.1 (wd_1 hW v_z) 0 rfl rfl 1 (by decide) (hts (.fieldLink RJx4a65c 9 "java/util/ArrayList" "elementData" "[Ljava/lang/Object;") (List.mem_of_getElem? (i := 1) rfl)) (fun _ h => h) rfl dJx4a65c_grow_92f84_33 ?_
  rw [hze]
  refine lv_iload_n hx hb dJx4a65c_grow_92f84_36 rfl (lv_at hl 0 rfl) ?_
  refine c_go (rest := [.ref (lo (0, i, 0))]) (va_runS (As := [.ref (lo (23, i, g)), .int (nI (j + j / 2))]) ⟨hx, hb, hml, hown, hts⟩ (tJ_c2 l Γ lo S X v_r ar.2.2.2.1 ar.2.2.2.2.1 hjc hj0 (by omega) ar.2.2.2.2.2.1 ar.2.2.2.2.2.2.1 ar.2.2.2.2.2.2.2) (va_cwS 2 hts gJx4a65c_grow_92f84_J7_copyOf_1904c rfl rfl rfl (by decide +kernel) ⟨Nat.le_of_ble_eq_true rfl, Nat.le_of_ble_eq_true rfl⟩) ⟨fun _ _ _ _ q => q, fun _ hU hW1 => ⟨rfl, by rw [hU]; exact hW, hKK.go hS hU hW1, hKY.go hW1⟩⟩ rfl rfl hl.1 rfl (lv_room (Nat.le_of_ble_eq_true rfl)) dJx4a65c_grow_92f84_37 ⟨Nat.le_of_ble_eq_true rfl, Nat.le_of_ble_eq_true rfl⟩) hS (fun q H locs hW hS => ?_)
  have hne : ∀ d, zV S d = true → d ≠ (23, i, (g + 1)) := fun d hd e => by rw [e, hv] at hd; cases hd
  have hW := wd_name hW (23, i, (g + 1)) hv (fun _ => 0) (fun _ => 0) (fun _ => none) (fun k => ([j + j / 2, j] : List Nat).getD k 0) (congrArg (fun f => (.inl (Γ.2.1 4, j + j / 2, .inr (.inr (.inr (.inr f)))) : va_E)) (zRf_cpy lo (zN S (23, i, g)) i j (j + j / 2) hj1 (23, i, g + 1) q (fun z => zEl_23 i z _))) (fun d hd => by obtain ⟨z, hz, e⟩ := hd; rw [zN_nw, if_pos rfl] at hz; have hz : z < j := hz; rw [e]; exact hW0.2.1 (23, i, g) _ v_r ⟨z, by rw [hj1]; exact hz, rfl⟩)
  have h1 : ∀ d, zV S d = true → lu lo (23, i, (g + 1)) q d = lo d := fun d hd => lu_n lo q (hne d hd)
  have hEq : lu lo (23, i, (g + 1)) q (23, i, (g + 1)) = q := lu_s lo _ _
  generalize lu lo (23, i, (g + 1)) q = lo1 at hW h1 hEq
  rw [← hEq, ← h1 (0, i, 0) v_z]
  refine lv_dup_x1 hx hb dJx4a65c_grow_92f84_40 rfl rfl ?_
  refine g_putE (i := i) (g := (g + 1)) hx hb hts ni_Jx4a65c_grow_92f84 hown hKK.1 hW hS (zV_nwm S (23, i, (g + 1)) (fun _ => 0) (fun _ => 0) (fun _ => none) (fun k => ([j + j / 2, j] : List Nat).getD k 0) _ v_z) (Nat.succ_ne_zero g) (zV_nws S (23, i, (g + 1)) (fun _ => 0) (fun _ => 0) (fun _ => none) (fun k => ([j + j / 2, j] : List Nat).getD k 0)) (hts (.fieldLink RJx4a65c 9 "java/util/ArrayList" "elementData" "[Ljava/lang/Object;") (List.mem_of_getElem? (i := 1) rfl)) dJx4a65c_grow_92f84_41 (fun H locs hW hS => ?_)
  exact n_aret hx hb hr (Or.inr ⟨_, rfl⟩) hlocks (Nat.le_of_ble_eq_true rfl) (Nat.le_of_ble_eq_true rfl) rfl hW hS h1 (fun d hd => zV_nwm S (23, i, (g + 1)) (fun _ => 0) (fun _ => 0) (fun _ => none) (fun k => ([j + j / 2, j] : List Nat).getD k 0) d hd) (zV_nws S (23, i, (g + 1)) (fun _ => 0) (fun _ => 0) (fun _ => none) (fun k => ([j + j / 2, j] : List Nat).getD k 0)) dJx4a65c_grow_92f84_44
set_option maxHeartbeats 4000000 in
set_option maxRecDepth 100000 in
theorem tJ_gs1 (l : Launch) (Γ : zG) (lo : zId → Nat) (S : zSt) (X : va_W) {i g j : Nat} (v_z : zV S (0, i, 0) = true) (hg : zN S (0, i, 0) 0 = g) (hg0 : g ≠ 0) (hj0 : zN S (23, i, g) 0 = j) (hj1 : zN S (23, i, g) 1 = j) (h2j : 2 ≤ j) (hjc : j + j / 2 ≤ 64) (hv : zV S (23, i, g + 1) = false) (hz : zI S (0, i, 0) 2 = nI j) : Met l yJx4a65c_grow_d5877 wsJx4a65c_grow_d5877 rmJa_e (zP2 Γ lo S X [.ref (lo (0, i, 0))]) (zQn Γ lo S (pN (nw S (23, i, g + 1) (fun _ => 0) (fun _ => 0) (fun _ => none) (fun k => ([j + j / 2, j] : List Nat).getD k 0)) (0, i, 0) 0 (g + 1)) X (fun lo1 => some (.ref (lo1 (23, i, (g + 1))))) (fun _ => zV (pN (nw S (23, i, g + 1) (fun _ => 0) (fun _ => 0) (fun _ => none) (fun k => ([j + j / 2, j] : List Nat).getD k 0)) (0, i, 0) 0 (g + 1)) (23, i, (g + 1)) = true)) 1 64 (zA Γ) := by
  refine Met.ofW (cc := cJx4a65c_grow_d5877) (maxL := 1) (ret := (some (.array (.object "java/lang/Object")))) (by decide) rfl ?_
  intro p e s m args below meth c s₁ B hml hv
  obtain ⟨rfl, hW, hKK, hKY⟩ := hv
  have hx := B.exec
  have hb := B.bytes
  have hr := B.returns
  have hts := atoms_spec (ws := wsJx4a65c_grow_d5877) B.pre
  have hown : s.vm.findClass RJx4a65c = some m.cls := findClass_of_methodNamed B.named
  have hlocks := B.notSynchronized
  have hS : va_S (zA Γ) s.heap s.heap [] := va_S.rf
  have hB0 : Γ.2.2.1 ≤ s.heap.size := hW.1
  have hl := lv_entry ([.ref (lo (0, i, 0))]) (n := 1) (Nat.le_of_ble_eq_true rfl)
  rw [lg_entry_eq]
  generalize (lg_sl ([.ref (lo (0, i, 0))]) ++ List.replicate (1 - (lg_sl ([.ref (lo (0, i, 0))])).length) Slot.unset).toArray = ls at hl ⊢
  have hl : lv_has ls 1 [(0, .ref (lo (0, i, 0)))] := hl
  generalize ([.ref (lo (0, i, 0))] : List Value).toArray = args at hts ⊢
  obtain ⟨H, hH0⟩ : ∃ H, H = s.heap := ⟨_, rfl⟩
  obtain ⟨locs, hlo0⟩ : ∃ L : List Loc, L = [] := ⟨_, rfl⟩
  have hS : va_S (zA Γ) s.heap H locs := by rw [hH0, hlo0]; exact hS
  have hW : Wd Γ lo S (X) H := by rw [hH0]; exact hW
  rw [← hH0, ← hlo0]
  refine lv_aload_n hx hb dJx4a65c_grow_d5877_0 rfl (lv_at hl 0 rfl) ?_
  refine lv_aload_n hx hb dJx4a65c_grow_d5877_1 rfl (lv_at hl 0 rfl) ?_
  refine va_get hx hb hts ni_Jx4a65c_grow_d5877 hown hKK.1 (wd_1 hW v_z) 0 rfl rfl 2 (by decide) (hts (.fieldLink RJx4a65c 48 "java/util/ArrayList" "size" "I") (List.mem_of_getElem? (i := 1) rfl)) (fun _ h => h) rfl dJx4a65c_grow_d5877_2 ?_
  rw [hz]
  refine lv_iconst (v := (1)) hx hb dJx4a65c_grow_d5877_5 (by decide) ?_
  refine lv_iadd hx hb dJx4a65c_grow_d5877_6 ?_
  refine n_callV (As := [.int (nI j + 1)]) (rest := []) ⟨hx, hb, hml, hown, hts⟩ (tJ_gr1 l Γ lo S X v_z hg hg0 hj0 hj1 h2j hjc hv hz) (cwV 1 hts gJx4a65c_grow_d5877_Jx4a65c_grow_92f84 rfl rfl rfl (by decide +kernel) ⟨Nat.le_of_ble_eq_true rfl, Nat.le_of_ble_eq_true rfl⟩) (wd_1 hW v_z) rfl hKK hKY hW hS rfl hl.1 rfl (Nat.le_of_ble_eq_true rfl) dJx4a65c_grow_d5877_7 ⟨Nat.le_of_ble_eq_true rfl, Nat.le_of_ble_eq_true rfl⟩ (fun lo1 H locs hW hS h1 hmo hE => ?_)
  exact n_aret hx hb hr (Or.inr ⟨_, rfl⟩) hlocks (Nat.le_of_ble_eq_true rfl) (Nat.le_of_ble_eq_true rfl) rfl hW hS h1 hmo hE dJx4a65c_grow_d5877_10
set_option maxHeartbeats 4000000 in
set_option maxRecDepth 100000 in
theorem tJ_ae0 (l : Launch) (Γ : zG) (lo : zId → Nat) (S : zSt) (X : va_W) {i : Nat} (v_z : zV S (0, i, 0) = true) (hg : zN S (0, i, 0) 0 = 0) (hv : zV S (23, i, 1) = false) (hz : zI S (0, i, 0) 2 = 0) (v_1 : zV S (zEl i 0) = true) : Met l yJx4a65c_add_72be8 wsJx4a65c_add_72be8 rmJa_f (zP2 Γ lo S X [.ref (lo (0, i, 0)), .ref (lo (zEl i 0)), .ref Γ.2.2.2, .int (nI 0)]) (zQn Γ lo S (pI (pN (pN (nw S (23, i, 1) (fun _ => 0) (fun _ => 0) (fun _ => none) (fun k => ([10, 0] : List Nat).getD k 0)) (0, i, 0) 0 1) (23, i, 1) 1 (0 + 1)) (0, i, 0) 2 (nI 0 + 1)) X (fun _ => none) (fun _ => True)) 1 64 (zA Γ) := by
  refine Met.ofW (cc := cJx4a65c_add_72be8) (maxL := 4) (ret := none) (by decide) rfl ?_
  intro p e s m args below meth c s₁ B hml hv
  obtain ⟨rfl, hW, hKK, hKY⟩ := hv
  have hx := B.exec
  have hb := B.bytes
  have hr := B.returns
  have hts := atoms_spec (ws := wsJx4a65c_add_72be8) B.pre
  have hown : s.vm.findClass RJx4a65c = some m.cls := findClass_of_methodNamed B.named
  have hlocks := B.notSynchronized
  have hS : va_S (zA Γ) s.heap s.heap [] := va_S.rf
  have hB0 : Γ.2.2.1 ≤ s.heap.size := hW.1
  have hl := lv_entry ([.ref (lo (0, i, 0)), .ref (lo (zEl i 0)), .ref Γ.2.2.2, .int (nI 0)]) (n := 4) (Nat.le_of_ble_eq_true rfl)
  rw [lg_entry_eq]
  generalize (lg_sl ([.ref (lo (0, i, 0)), .ref (lo (zEl i 0)), .ref Γ.2.2.2, .int (nI 0)]) ++ List.replicate (4 - (lg_sl ([.ref (lo (0, i, 0)), .ref (lo (zEl i 0)), .ref Γ.2.2.2, .int (nI 0)])).length) Slot.unset).toArray = ls at hl ⊢
  have hl : lv_has ls 4 [(0, .ref (lo (0, i, 0))), (1, .ref (lo (zEl i 0))), (2, .ref Γ.2.2.2), (3, .int (nI 0))] := hl
  generalize ([.ref (lo (0, i, 0)), .ref (lo (zEl i 0)), .ref Γ.2.2.2, .int (nI 0)] : List Value).toArray = args at hts ⊢
  obtain ⟨H, hH0⟩ : ∃ H, H = s.heap := ⟨_, rfl⟩
  obtain ⟨locs, hlo0⟩ : ∃ L : List Loc, L = [] := ⟨_, rfl⟩
  have hS : va_S (zA Γ) s.heap H locs := by rw [hH0, hlo0]; exact hS
  have hW : Wd Γ lo S (X) H := by rw [hH0]; exact hW
  rw [← hH0, ← hlo0]
  refine lv_iload_n hx hb dJx4a65c_add_72be8_0 rfl (lv_at hl 3 rfl) ?_
  refine lv_aload_n hx hb dJx4a65c_add_72be8_1 rfl (lv_at hl 2 rfl) ?_
  refine va_tlen (v := nI 0) hx hb hKK.2.2.1 hS (by decide) dJx4a65c_add_72be8_2 ?_
  refine lv_icmp_ne (tgt := 11) hx hb dJx4a65c_add_72be8_3 (by decide) (fun k => absurd rfl k) (fun _ => ?_)
  refine lv_aload_n hx hb dJx4a65c_add_72be8_6 rfl (lv_at hl 0 rfl) ?_
  refine n_callV (As := []) (rest := []) ⟨hx, hb, hml, hown, hts⟩ (tJ_gs0 l Γ lo S X v_z hg hv hz) (cwV 0 hts gJx4a65c_add_72be8_Jx4a65c_grow_d5877 rfl rfl rfl (by decide +kernel) ⟨Nat.le_of_ble_eq_true rfl, Nat.le_of_ble_eq_true rfl⟩) (wd_1 hW v_z) rfl hKK hKY hW hS rfl hl.1 rfl (Nat.le_of_ble_eq_true rfl) dJx4a65c_add_72be8_7 ⟨Nat.le_of_ble_eq_true rfl, Nat.le_of_ble_eq_true rfl⟩ (fun lo1 H locs hW hS h1 hmo v_n => ?_)
  have v_zo := v_z
  have v_1o := v_1
  rw [← h1 (0, i, 0) v_z, ← h1 (zEl i 0) v_1] at hl
  have v_z := hmo _ v_z
  have v_1 := hmo _ v_1
  refine lv_astore_n (lv' := [(2, .ref (lo1 (23, i, 1))), (0, .ref (lo1 (0, i, 0))), (1, .ref (lo1 (zEl i 0))), (3, .int (nI 0))]) hx hb dJx4a65c_add_72be8_10 rfl hl (by decide) rfl (fun ls hl => ?_)
  refine lv_aload_n hx hb dJx4a65c_add_72be8_11 rfl (lv_at hl 0 rfl) ?_
  refine lv_iload_n hx hb dJx4a65c_add_72be8_12 rfl (lv_at hl 3 rfl) ?_
  refine lv_aload_n hx hb dJx4a65c_add_72be8_13 rfl (lv_at hl 2 rfl) ?_
  refine g_astE (j := 0) hx hb hKK hKY hW hS v_n v_1 (show zN (pN (nw S (23, i, 1) (fun _ => 0) (fun _ => 0) (fun _ => none) (fun k => ([10, 0] : List Nat).getD k 0)) (0, i, 0) 0 1) (23, i, 1) 1 = 0 from (by rw [zN_pN, if_neg (fun h => by cases congrArg Prod.fst h), zN_nw, if_pos rfl]; rfl)) (by decide) (by rw [(show zN (pN (nw S (23, i, 1) (fun _ => 0) (fun _ => 0) (fun _ => none) (fun k => ([10, 0] : List Nat).getD k 0)) (0, i, 0) 0 1) (23, i, 1) 0 = 10 from (by rw [zN_pN, if_neg (fun h => by cases congrArg Prod.fst h), zN_nw, if_pos rfl]; rfl))]; exact (by decide : ¬ (nI 0 < 0 ∨ 10 ≤ (nI 0).toNatClampNeg))) dJx4a65c_add_72be8_14 (fun H locs hW hS => ?_)
  refine lv_aload_n hx hb dJx4a65c_add_72be8_15 rfl (lv_at hl 1 rfl) ?_
  refine lv_iload_n hx hb dJx4a65c_add_72be8_16 rfl (lv_at hl 3 rfl) ?_
  refine lv_iconst (v := (1)) hx hb dJx4a65c_add_72be8_17 (by decide) ?_
  refine lv_iadd hx hb dJx4a65c_add_72be8_18 ?_
  refine g_put hx hb hts ni_Jx4a65c_add_72be8 tyJx4a65c tyJx4a65c_ok nmJx4a65c hown hKK.1 hW hS (c0 := (0, i, 0)) v_z rfl rfl 2 (by decide) (hts (.fieldLink RJx4a65c 48 "java/util/ArrayList" "size" "I") (List.mem_of_getElem? (i := 1) rfl)) rfl rfl rfl (show 2 < 3 by decide) rfl dJx4a65c_add_72be8_19 rfl (fun H locs hW hS => ?_)
  exact n_vret hx hb hr hlocks (Nat.le_of_ble_eq_true rfl) (Nat.le_of_ble_eq_true rfl) rfl hW hS h1 hmo trivial dJx4a65c_add_72be8_22
set_option maxHeartbeats 4000000 in
set_option maxRecDepth 100000 in
theorem tJ_ae1 (l : Launch) (Γ : zG) (lo : zId → Nat) (S : zSt) (X : va_W) {i g j : Nat} (v_z : zV S (0, i, 0) = true) (hg : zN S (0, i, 0) 0 = g) (hg0 : g ≠ 0) (hj0 : zN S (23, i, g) 0 = j) (hj1 : zN S (23, i, g) 1 = j) (h2j : 2 ≤ j) (hjc : j + j / 2 ≤ 64) (hv : zV S (23, i, g + 1) = false) (hz : zI S (0, i, 0) 2 = nI j) (v_1 : zV S (zEl i j) = true) : Met l yJx4a65c_add_72be8 wsJx4a65c_add_72be8 rmJa_f (zP2 Γ lo S X [.ref (lo (0, i, 0)), .ref (lo (zEl i j)), .ref (lo (23, i, g)), .int (nI j)]) (zQn Γ lo S (pI (pN (pN (nw S (23, i, g + 1) (fun _ => 0) (fun _ => 0) (fun _ => none) (fun k => ([j + j / 2, j] : List Nat).getD k 0)) (0, i, 0) 0 (g + 1)) (23, i, (g + 1)) 1 (j + 1)) (0, i, 0) 2 (nI j + 1)) X (fun _ => none) (fun _ => True)) 1 64 (zA Γ) := by
  refine Met.ofW (cc := cJx4a65c_add_72be8) (maxL := 4) (ret := none) (by decide) rfl ?_
  intro p e s m args below meth c s₁ B hml hv
  obtain ⟨rfl, hW, hKK, hKY⟩ := hv
  have hx := B.exec
  have hb := B.bytes
  have hr := B.returns
  have hts := atoms_spec (ws := wsJx4a65c_add_72be8) B.pre
  have hown : s.vm.findClass RJx4a65c = some m.cls := findClass_of_methodNamed B.named
  have hlocks := B.notSynchronized
  have hS : va_S (zA Γ) s.heap s.heap [] := va_S.rf
  have hB0 : Γ.2.2.1 ≤ s.heap.size := hW.1
  have hl := lv_entry ([.ref (lo (0, i, 0)), .ref (lo (zEl i j)), .ref (lo (23, i, g)), .int (nI j)]) (n := 4) (Nat.le_of_ble_eq_true rfl)
  rw [lg_entry_eq]
  generalize (lg_sl ([.ref (lo (0, i, 0)), .ref (lo (zEl i j)), .ref (lo (23, i, g)), .int (nI j)]) ++ List.replicate (4 - (lg_sl ([.ref (lo (0, i, 0)), .ref (lo (zEl i j)), .ref (lo (23, i, g)), .int (nI j)])).length) Slot.unset).toArray = ls at hl ⊢
  have hl : lv_has ls 4 [(0, .ref (lo (0, i, 0))), (1, .ref (lo (zEl i j))), (2, .ref (lo (23, i, g))), (3, .int (nI j))] := hl
  generalize ([.ref (lo (0, i, 0)), .ref (lo (zEl i j)), .ref (lo (23, i, g)), .int (nI j)] : List Value).toArray = args at hts ⊢
  obtain ⟨H, hH0⟩ : ∃ H, H = s.heap := ⟨_, rfl⟩
  obtain ⟨locs, hlo0⟩ : ∃ L : List Loc, L = [] := ⟨_, rfl⟩
  have hS : va_S (zA Γ) s.heap H locs := by rw [hH0, hlo0]; exact hS
  have hW : Wd Γ lo S (X) H := by rw [hH0]; exact hW
  rw [← hH0, ← hlo0]
  have v_r : zV S (23, i, g) = true := hW.2.1 (0, i, 0) _ v_z ⟨by rw [hg]; exact hg0, by rw [hg]⟩
  have ar := ar_2 j (by omega) h2j
  refine lv_iload_n hx hb dJx4a65c_add_72be8_0 rfl (lv_at hl 3 rfl) ?_
  refine lv_aload_n hx hb dJx4a65c_add_72be8_1 rfl (lv_at hl 2 rfl) ?_
  refine va_alen (v := nI j) hx hb hKK.1 (wd_1 hW v_r) 0 4 rfl rfl (show Int32.ofNat (zN S (23, i, g) 0) = nI j by rw [hj0]; rfl) dJx4a65c_add_72be8_2 ?_
  refine lv_icmp_ne (tgt := 11) hx hb dJx4a65c_add_72be8_3 (by decide) (fun k => absurd rfl k) (fun _ => ?_)
  refine lv_aload_n hx hb dJx4a65c_add_72be8_6 rfl (lv_at hl 0 rfl) ?_
  refine n_callV (As := []) (rest := []) ⟨hx, hb, hml, hown, hts⟩ (tJ_gs1 l Γ lo S X v_z hg hg0 hj0 hj1 h2j hjc hv hz) (cwV 0 hts gJx4a65c_add_72be8_Jx4a65c_grow_d5877 rfl rfl rfl (by decide +kernel) ⟨Nat.le_of_ble_eq_true rfl, Nat.le_of_ble_eq_true rfl⟩) (wd_1 hW v_z) rfl hKK hKY hW hS rfl hl.1 rfl (Nat.le_of_ble_eq_true rfl) dJx4a65c_add_72be8_7 ⟨Nat.le_of_ble_eq_true rfl, Nat.le_of_ble_eq_true rfl⟩ (fun lo1 H locs hW hS h1 hmo v_n => ?_)
  have v_zo := v_z
  have v_1o := v_1
  rw [← h1 (0, i, 0) v_z, ← h1 (zEl i j) v_1] at hl
  have v_z := hmo _ v_z
  have v_1 := hmo _ v_1
  refine lv_astore_n (lv' := [(2, .ref (lo1 (23, i, (g + 1)))), (0, .ref (lo1 (0, i, 0))), (1, .ref (lo1 (zEl i j))), (3, .int (nI j))]) hx hb dJx4a65c_add_72be8_10 rfl hl (by decide) rfl (fun ls hl => ?_)
  refine lv_aload_n hx hb dJx4a65c_add_72be8_11 rfl (lv_at hl 0 rfl) ?_
  refine lv_iload_n hx hb dJx4a65c_add_72be8_12 rfl (lv_at hl 3 rfl) ?_
  refine lv_aload_n hx hb dJx4a65c_add_72be8_13 rfl (lv_at hl 2 rfl) ?_
  refine g_astE (j := j) hx hb hKK hKY hW hS v_n v_1 (show zN (pN (nw S (23, i, g + 1) (fun _ => 0) (fun _ => 0) (fun _ => none) (fun k => ([j + j / 2, j] : List Nat).getD k 0)) (0, i, 0) 0 (g + 1)) (23, i, (g + 1)) 1 = j from (by rw [zN_pN, if_neg (fun h => by cases congrArg Prod.fst h), zN_nw, if_pos rfl]; rfl)) ar.2.2.2.2.2.2.1 (by rw [(show zN (pN (nw S (23, i, g + 1) (fun _ => 0) (fun _ => 0) (fun _ => none) (fun k => ([j + j / 2, j] : List Nat).getD k 0)) (0, i, 0) 0 (g + 1)) (23, i, (g + 1)) 0 = j + j / 2 from (by rw [zN_pN, if_neg (fun h => by cases congrArg Prod.fst h), zN_nw, if_pos rfl]; rfl))]; exact fun q => q.elim ar.2.2.2.2.2.1 (fun q => by rw [ar.2.2.2.2.2.2.1] at q; omega)) dJx4a65c_add_72be8_14 (fun H locs hW hS => ?_)
  refine lv_aload_n hx hb dJx4a65c_add_72be8_15 rfl (lv_at hl 1 rfl) ?_
  refine lv_iload_n hx hb dJx4a65c_add_72be8_16 rfl (lv_at hl 3 rfl) ?_
  refine lv_iconst (v := (1)) hx hb dJx4a65c_add_72be8_17 (by decide) ?_
  refine lv_iadd hx hb dJx4a65c_add_72be8_18 ?_
  refine g_put hx hb hts ni_Jx4a65c_add_72be8 tyJx4a65c tyJx4a65c_ok nmJx4a65c hown hKK.1 hW hS (c0 := (0, i, 0)) v_z rfl rfl 2 (by decide) (hts (.fieldLink RJx4a65c 48 "java/util/ArrayList" "size" "I") (List.mem_of_getElem? (i := 1) rfl)) rfl rfl rfl (show 2 < 3 by decide) rfl dJx4a65c_add_72be8_19 rfl (fun H locs hW hS => ?_)
  exact n_vret hx hb hr hlocks (Nat.le_of_ble_eq_true rfl) (Nat.le_of_ble_eq_true rfl) rfl hW hS h1 hmo trivial dJx4a65c_add_72be8_22
set_option maxHeartbeats 4000000 in
set_option maxRecDepth 100000 in
theorem tJ_ae2 (l : Launch) (Γ : zG) (lo : zId → Nat) (S : zSt) (X : va_W) {i g j : Nat} (v_z : zV S (0, i, 0) = true) (hg : zN S (0, i, 0) 0 = g) (hg0 : g ≠ 0) (hj1 : zN S (23, i, g) 1 = j) (hjc : j < zN S (23, i, g) 0) (hcap : zN S (23, i, g) 0 ≤ 64) (hz : zI S (0, i, 0) 2 = nI j) (v_1 : zV S (zEl i j) = true) : Met l yJx4a65c_add_72be8 wsJx4a65c_add_72be8 rmJa_f (zP2 Γ lo S X [.ref (lo (0, i, 0)), .ref (lo (zEl i j)), .ref (lo (23, i, g)), .int (nI j)]) (zQn Γ lo S (pI (pN S (23, i, g) 1 (j + 1)) (0, i, 0) 2 (nI j + 1)) X (fun _ => none) (fun _ => True)) 1 64 (zA Γ) := by
  refine Met.ofW (cc := cJx4a65c_add_72be8) (maxL := 4) (ret := none) (by decide) rfl ?_
  intro p e s m args below meth c s₁ B hml hv
  obtain ⟨rfl, hW, hKK, hKY⟩ := hv
  have hx := B.exec
  have hb := B.bytes
  have hr := B.returns
  have hts := atoms_spec (ws := wsJx4a65c_add_72be8) B.pre
  have hown : s.vm.findClass RJx4a65c = some m.cls := findClass_of_methodNamed B.named
  have hlocks := B.notSynchronized
  have hS : va_S (zA Γ) s.heap s.heap [] := va_S.rf
  have hB0 : Γ.2.2.1 ≤ s.heap.size := hW.1
  have hl := lv_entry ([.ref (lo (0, i, 0)), .ref (lo (zEl i j)), .ref (lo (23, i, g)), .int (nI j)]) (n := 4) (Nat.le_of_ble_eq_true rfl)
  rw [lg_entry_eq]
  generalize (lg_sl ([.ref (lo (0, i, 0)), .ref (lo (zEl i j)), .ref (lo (23, i, g)), .int (nI j)]) ++ List.replicate (4 - (lg_sl ([.ref (lo (0, i, 0)), .ref (lo (zEl i j)), .ref (lo (23, i, g)), .int (nI j)])).length) Slot.unset).toArray = ls at hl ⊢
  have hl : lv_has ls 4 [(0, .ref (lo (0, i, 0))), (1, .ref (lo (zEl i j))), (2, .ref (lo (23, i, g))), (3, .int (nI j))] := hl
  generalize ([.ref (lo (0, i, 0)), .ref (lo (zEl i j)), .ref (lo (23, i, g)), .int (nI j)] : List Value).toArray = args at hts ⊢
  obtain ⟨H, hH0⟩ : ∃ H, H = s.heap := ⟨_, rfl⟩
  obtain ⟨locs, hlo0⟩ : ∃ L : List Loc, L = [] := ⟨_, rfl⟩
  have hS : va_S (zA Γ) s.heap H locs := by rw [hH0, hlo0]; exact hS
  have hW : Wd Γ lo S (X) H := by rw [hH0]; exact hW
  rw [← hH0, ← hlo0]
  have v_r : zV S (23, i, g) = true := hW.2.1 (0, i, 0) _ v_z ⟨by rw [hg]; exact hg0, by rw [hg]⟩
  have ar := ar_3 j (by omega)
  refine lv_iload_n hx hb dJx4a65c_add_72be8_0 rfl (lv_at hl 3 rfl) ?_
  refine lv_aload_n hx hb dJx4a65c_add_72be8_1 rfl (lv_at hl 2 rfl) ?_
  refine va_alen (v := nI (zN S (23, i, g) 0)) hx hb hKK.1 (wd_1 hW v_r) 0 4 rfl rfl rfl dJx4a65c_add_72be8_2 ?_
  refine lv_icmp_ne (tgt := 11) hx hb dJx4a65c_add_72be8_3 (by decide) (fun _ => ?_) (fun k => absurd (ar_4 j (by omega) _ (by omega) k) (by omega))
  refine lv_aload_n hx hb dJx4a65c_add_72be8_11 rfl (lv_at hl 2 rfl) ?_
  refine lv_iload_n hx hb dJx4a65c_add_72be8_12 rfl (lv_at hl 3 rfl) ?_
  refine lv_aload_n hx hb dJx4a65c_add_72be8_13 rfl (lv_at hl 1 rfl) ?_
  refine g_astE (j := j) hx hb hKK hKY hW hS v_r v_1 hj1 ar.1 (fun q => q.elim ar.2 (fun q => by rw [ar.1] at q; omega)) dJx4a65c_add_72be8_14 (fun H locs hW hS => ?_)
  refine lv_aload_n hx hb dJx4a65c_add_72be8_15 rfl (lv_at hl 0 rfl) ?_
  refine lv_iload_n hx hb dJx4a65c_add_72be8_16 rfl (lv_at hl 3 rfl) ?_
  refine lv_iconst (v := (1)) hx hb dJx4a65c_add_72be8_17 (by decide) ?_
  refine lv_iadd hx hb dJx4a65c_add_72be8_18 ?_
  refine g_put hx hb hts ni_Jx4a65c_add_72be8 tyJx4a65c tyJx4a65c_ok nmJx4a65c hown hKK.1 hW hS (c0 := (0, i, 0)) v_z rfl rfl 2 (by decide) (hts (.fieldLink RJx4a65c 48 "java/util/ArrayList" "size" "I") (List.mem_of_getElem? (i := 1) rfl)) rfl rfl rfl (show 2 < 3 by decide) rfl dJx4a65c_add_72be8_19 rfl (fun H locs hW hS => ?_)
  exact n_vret hx hb hr hlocks (Nat.le_of_ble_eq_true rfl) (Nat.le_of_ble_eq_true rfl) rfl hW hS (fun _ _ => rfl) (fun _ h => h) trivial dJx4a65c_add_72be8_22
def fin {α : Type} (o : Option α) : Option ((Nat × zSt) ⊕ α) := match o with
  | none => none
  | some a => some (.inr a)
theorem op_fin {α : Type} {o : Option α} {y : α} (h : fin o = some (.inr y)) : o = some y := by
  cases o with
  | none => cases h
  | some a => exact congrArg some (Sum.inr.inj (Option.some.inj h))
theorem op_finT {α : Type} {o : Option α} {e : Nat × zSt} (h : fin o = some (.inl e)) : False := by
  cases o with
  | none => cases h
  | some a => cases h
/-- room for one more, if the list's row is full (or there is none yet) -/
def fJ_room (S : zSt) (i j : Nat) : Option zSt :=
  if zN S (0, i, 0) 0 = 0 then
    gd (j = 0 ∧ zV S (23, i, 1) = false) (some (pN (nw S (23, i, 1) (fun _ => 0) (fun _ => 0) (fun _ => none) (fun k => ([10, 0] : List Nat).getD k 0)) (0, i, 0) 0 1))
  else if zN S (23, i, zN S (0, i, 0) 0) 0 = j then
    gd (zV S (23, i, zN S (0, i, 0) 0 + 1) = false ∧ 2 ≤ j ∧ j + j / 2 ≤ 64) (some (pN (nw S (23, i, zN S (0, i, 0) 0 + 1) (fun _ => 0) (fun _ => 0) (fun _ => none) (fun k => ([j + j / 2, j] : List Nat).getD k 0)) (0, i, 0) 0 (zN S (0, i, 0) 0 + 1)))
  else some S
def fJ_add (S : zSt) (i j : Nat) : Option zSt :=
  gd (zI S (0, i, 0) 2 = nI j ∧ j < 64 ∧ zV S (zEl i j) = true ∧ (zN S (0, i, 0) 0 ≠ 0 → zN S (23, i, zN S (0, i, 0) 0) 1 = j ∧ j ≤ zN S (23, i, zN S (0, i, 0) 0) 0 ∧ zN S (23, i, zN S (0, i, 0) 0) 0 ≤ 64)) (
  st (pI S (0, i, 0) 0 (zI S (0, i, 0) 0 + 1)) fun S1 =>
  cl (fJ_room S1 i j) fun S2 =>
  st (pN S2 (23, i, zN S2 (0, i, 0) 0) 1 (j + 1)) fun S3 =>
  st (pI S3 (0, i, 0) 2 (nI j + 1)) fun S4 =>
  some S4)
abbrev rmJa7 : Room := { frames := 7, cells := 1, slots := 64, locals := 300 }
set_option maxHeartbeats 4000000 in
set_option maxRecDepth 100000 in
theorem tJ_add (l : Launch) (Γ : zG) (lo : zId → Nat) (S : zSt) (X : va_W) {i j : Nat} (v_z : zV S (0, i, 0) = true) (v_1 : zV S (zEl i j) = true) {y : zSt} (hf : fJ_add S i j = some y) : Met l yJx4a65c_add_9ea2d wsJx4a65c_add_9ea2d rmJa7 (zP2 Γ lo S X [.ref (lo (0, i, 0)), .ref (lo (zEl i j))]) (zQn Γ lo S y X (fun _ => some (.int 1)) (fun _ => True)) 1 64 (zA Γ) := by
  refine Met.ofW (cc := cJx4a65c_add_9ea2d) (maxL := 2) (ret := (some .boolean)) (by decide) rfl ?_
  intro p e s m args below meth c s₁ B hml hv
  obtain ⟨rfl, hW, hKK, hKY⟩ := hv
  have hx := B.exec
  have hb := B.bytes
  have hr := B.returns
  have hts := atoms_spec (ws := wsJx4a65c_add_9ea2d) B.pre
  have hown : s.vm.findClass RJx4a65c = some m.cls := findClass_of_methodNamed B.named
  have hlocks := B.notSynchronized
  have hS : va_S (zA Γ) s.heap s.heap [] := va_S.rf
  have hB0 : Γ.2.2.1 ≤ s.heap.size := hW.1
  have hl := lv_entry ([.ref (lo (0, i, 0)), .ref (lo (zEl i j))]) (n := 2) (Nat.le_of_ble_eq_true rfl)
  rw [lg_entry_eq]
  generalize (lg_sl ([.ref (lo (0, i, 0)), .ref (lo (zEl i j))]) ++ List.replicate (2 - (lg_sl ([.ref (lo (0, i, 0)), .ref (lo (zEl i j))])).length) Slot.unset).toArray = ls at hl ⊢
  have hl : lv_has ls 2 [(0, .ref (lo (0, i, 0))), (1, .ref (lo (zEl i j)))] := hl
  generalize ([.ref (lo (0, i, 0)), .ref (lo (zEl i j))] : List Value).toArray = args at hts ⊢
  obtain ⟨H, hH0⟩ : ∃ H, H = s.heap := ⟨_, rfl⟩
  obtain ⟨locs, hlo0⟩ : ∃ L : List Loc, L = [] := ⟨_, rfl⟩
  have hS : va_S (zA Γ) s.heap H locs := by rw [hH0, hlo0]; exact hS
  have hW : Wd Γ lo S (X) H := by rw [hH0]; exact hW
  rw [← hH0, ← hlo0]
  unfold fJ_add at hf
  obtain ⟨⟨hz, hj64, -, hg1⟩, hf⟩ := op_gd hf
  obtain ⟨S1, eS1, hf⟩ := op_st hf
  obtain ⟨S2, hc2, hf⟩ := op_cl hf
  obtain ⟨S3, eS3, hf⟩ := op_st hf
  obtain ⟨S4, eS4, hf⟩ := op_st hf
  have hf := Option.some.inj hf
  rw [← hf]
  refine lv_aload_n hx hb dJx4a65c_add_9ea2d_0 rfl (lv_at hl 0 rfl) ?_
  refine lv_dup hx hb dJx4a65c_add_9ea2d_1 rfl ?_
  refine va_get hx hb hts ni_Jx4a65c_add_9ea2d hown hKK.1 (wd_1 hW v_z) 0 rfl rfl 0 (by decide) (hts (.fieldLink RJx4a65c 63 "java/util/ArrayList" "modCount" "I") (List.mem_of_getElem? (i := 1) rfl)) (u_same (hts (.sameField "java/util/ArrayList" "java/util/AbstractList" "modCount" "I") (List.mem_of_getElem? (i := 2) rfl))) rfl dJx4a65c_add_9ea2d_2 ?_
  refine lv_iconst (v := (1)) hx hb dJx4a65c_add_9ea2d_5 (by decide) ?_
  refine lv_iadd hx hb dJx4a65c_add_9ea2d_6 ?_
  refine g_putS hx hb hts ni_Jx4a65c_add_9ea2d hown hKK.1 hW hS v_z (hts (.fieldLink RJx4a65c 63 "java/util/ArrayList" "modCount" "I") (List.mem_of_getElem? (i := 1) rfl)) (u_same (hts (.sameField "java/util/ArrayList" "java/util/AbstractList" "modCount" "I") (List.mem_of_getElem? (i := 2) rfl))) dJx4a65c_add_9ea2d_7 (fun H locs hW hS => ?_)
  rw [← eS1] at hW
  have e1 : zI S1 (0, i, 0) 2 = nI j := by rw [eS1, zI_pIs]; exact hz
  have e2 : ∀ d, zN S1 d = zN S d := fun d => by rw [eS1]; rfl
  have e3 : ∀ d, zV S1 d = zV S d := fun d => by rw [eS1]; rfl
  have v_z1 : zV S1 (0, i, 0) = true := (e3 _).trans v_z
  have v_11 : zV S1 (zEl i j) = true := (e3 _).trans v_1
  rw [← e2, ← e2] at hg1
  refine lv_aload_n hx hb dJx4a65c_add_9ea2d_10 rfl (lv_at hl 0 rfl) ?_
  refine lv_aload_n hx hb dJx4a65c_add_9ea2d_11 rfl (lv_at hl 1 rfl) ?_
  refine lv_aload_n hx hb dJx4a65c_add_9ea2d_12 rfl (lv_at hl 0 rfl) ?_
  refine va_get hx hb hts ni_Jx4a65c_add_9ea2d hown hKK.1 (wd_1 hW v_z1) 0 rfl rfl 1 (by decide) (hts (.fieldLink RJx4a65c 9 "java/util/ArrayList" "elementData" "[Ljava/lang/Object;") (List.mem_of_getElem? (i := 3) rfl)) (fun _ h => h) rfl dJx4a65c_add_9ea2d_13 ?_
  refine lv_aload_n hx hb dJx4a65c_add_9ea2d_16 rfl (lv_at hl 0 rfl) ?_
  refine va_get hx hb hts ni_Jx4a65c_add_9ea2d hown hKK.1 (wd_1 hW v_z1) 0 rfl rfl 2 (by decide) (hts (.fieldLink RJx4a65c 48 "java/util/ArrayList" "size" "I") (List.mem_of_getElem? (i := 4) rfl)) (fun _ h => h) rfl dJx4a65c_add_9ea2d_17 ?_
  rw [e1]
  have hend : ∀ (lo1 : zId → Nat) (H : Heap) (locs : List Loc), Wd Γ lo1 S4 X H → va_S (zA Γ) s.heap H locs → (∀ d, zV S1 d = true → lo1 d = lo d) → (∀ d, zV S1 d = true → zV S4 d = true) → W p l e (headSpec wsJx4a65c_add_9ea2d rmJa7).room s m args below meth c H locs (0 + 1) (0 + 64) (MQ below (zQn Γ lo S S4 X (fun _ => some (.int 1)) (fun _ => True)) args s 1 64 (zA Γ)) (F0 m 23 ls []) := by
    intro lo1 H locs hW hS h1 hmo
    refine lv_iconst (v := (1)) hx hb dJx4a65c_add_9ea2d_23 (by decide) ?_
    exact n_iret hx hb hr hlocks (Nat.le_of_ble_eq_true rfl) (Nat.le_of_ble_eq_true rfl) z_b1 rfl hW hS (fun d hd => h1 d ((e3 d).trans hd)) (fun d hd => hmo d ((e3 d).trans hd)) trivial dJx4a65c_add_9ea2d_24
  by_cases hg : zN S1 (0, i, 0) 0 = 0
  · unfold fJ_room at hc2
    rw [if_pos hg] at hc2
    obtain ⟨⟨hj0, hv⟩, hc3⟩ := op_gd hc2
    have hc4 := Option.some.inj hc3
    have e4 : zN S2 (0, i, 0) 0 = 1 := by rw [← hc4, zN_pN, if_pos rfl]; rfl
    rw [e4, ← hc4] at eS3
    rw [eS3] at eS4
    have hze : zE Γ lo i (zN S1 (0, i, 0) 0) = .ref Γ.2.2.2 := by unfold zE; rw [if_pos hg]
    rw [hze]
    rw [hj0] at e1 v_11 hl eS4 ⊢
    refine n_callV (As := [.ref (lo (zEl i 0)), .ref Γ.2.2.2, .int (nI 0)]) (rest := []) ⟨hx, hb, hml, hown, hts⟩ (tJ_ae0 l Γ lo S1 X v_z1 hg hv e1 v_11) (cwV 3 hts gJx4a65c_add_9ea2d_Jx4a65c_add_72be8 rfl rfl rfl (by decide +kernel) ⟨Nat.le_of_ble_eq_true rfl, Nat.le_of_ble_eq_true rfl⟩) (wd_1 hW v_z1) rfl hKK hKY hW hS rfl hl.1 rfl (Nat.le_of_ble_eq_true rfl) dJx4a65c_add_9ea2d_20 ⟨Nat.le_of_ble_eq_true rfl, Nat.le_of_ble_eq_true rfl⟩ (fun lo1 H locs hW hS h1 hmo _ => ?_)
    rw [← eS4] at hW hmo
    exact hend lo1 H locs hW hS h1 hmo
  · have hze : zE Γ lo i (zN S1 (0, i, 0) 0) = .ref (lo (23, i, zN S1 (0, i, 0) 0)) := by unfold zE; rw [if_neg hg]
    rw [hze]
    obtain ⟨g, eg⟩ : ∃ g, g = zN S1 (0, i, 0) 0 := ⟨_, rfl⟩
    have hg1 := hg1 hg
    unfold fJ_room at hc2
    rw [if_neg hg] at hc2
    rw [← eg] at hg hg1 hc2 ⊢
    obtain ⟨hj1, hjc, hcap⟩ := hg1
    by_cases hfull : zN S1 (23, i, g) 0 = j
    · rw [if_pos hfull] at hc2
      obtain ⟨⟨hv, h2j, hjc⟩, hc2⟩ := op_gd hc2
      have hc2 := Option.some.inj hc2
      have e4 : zN S2 (0, i, 0) 0 = g + 1 := by rw [← hc2, zN_pN, if_pos rfl]; rfl
      rw [e4, ← hc2] at eS3
      rw [eS3] at eS4
      refine n_callV (As := [.ref (lo (zEl i j)), .ref (lo (23, i, g)), .int (nI j)]) (rest := []) ⟨hx, hb, hml, hown, hts⟩ (tJ_ae1 l Γ lo S1 X v_z1 eg.symm hg hfull hj1 h2j hjc hv e1 v_11) (cwV 3 hts gJx4a65c_add_9ea2d_Jx4a65c_add_72be8 rfl rfl rfl (by decide +kernel) ⟨Nat.le_of_ble_eq_true rfl, Nat.le_of_ble_eq_true rfl⟩) (wd_1 hW v_z1) rfl hKK hKY hW hS rfl hl.1 rfl (Nat.le_of_ble_eq_true rfl) dJx4a65c_add_9ea2d_20 ⟨Nat.le_of_ble_eq_true rfl, Nat.le_of_ble_eq_true rfl⟩ (fun lo1 H locs hW hS h1 hmo _ => ?_)
      rw [← eS4] at hW hmo
      exact hend lo1 H locs hW hS h1 hmo
    · rw [if_neg hfull] at hc2
      have hc2 := Option.some.inj hc2
      rw [← hc2, ← eg] at eS3
      rw [eS3] at eS4
      refine n_callV (As := [.ref (lo (zEl i j)), .ref (lo (23, i, g)), .int (nI j)]) (rest := []) ⟨hx, hb, hml, hown, hts⟩ (tJ_ae2 l Γ lo S1 X v_z1 eg.symm hg hj1 (by omega) hcap e1 v_11) (cwV 3 hts gJx4a65c_add_9ea2d_Jx4a65c_add_72be8 rfl rfl rfl (by decide +kernel) ⟨Nat.le_of_ble_eq_true rfl, Nat.le_of_ble_eq_true rfl⟩) (wd_1 hW v_z1) rfl hKK hKY hW hS rfl hl.1 rfl (Nat.le_of_ble_eq_true rfl) dJx4a65c_add_9ea2d_20 ⟨Nat.le_of_ble_eq_true rfl, Nat.le_of_ble_eq_true rfl⟩ (fun lo1 H locs hW hS h1 hmo _ => ?_)
      rw [← eS4] at hW hmo
      exact hend lo1 H locs hW hS h1 hmo

