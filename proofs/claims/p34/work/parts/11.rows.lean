/-! THE ROWS over the named heap: writes of named cells, calls, ends. Reads go by the kit's rows over one cell (wd_1). -/
/-- the function's own steps -/
def cl {α β : Type} (o : Option α) (k : α → Option β) : Option β := match o with
  | none => none
  | some a => k a
def cl2 {α β σ : Type} (o : Option (α × σ)) (k : α → σ → Option β) : Option β := match o with
  | none => none
  | some a => k a.1 a.2
def gd {β : Type} (P : Prop) [Decidable P] (k : Option β) : Option β := if P then k else none
def st {α β : Type} (v : α) (k : α → Option β) : Option β := k v
def om {β : Type} (o : Option Nat) (a : Option β) (k : Nat → Option β) : Option β := match o with
  | none => a
  | some n => k n
/-- a loop: the body goes round with .inl, ends with .inr -/
def lp {σ β : Type} (body : σ → Option (σ ⊕ β)) : Nat → σ → Option β
  | 0, _ => none
  | n + 1, s => match body s with
    | none => none
    | some (.inl s1) => lp body n s1
    | some (.inr b) => some b
theorem op_cl {α β : Type} {o : Option α} {k : α → Option β} {y : β} (h : cl o k = some y) : ∃ a, o = some a ∧ k a = some y := by
  cases o with
  | none => cases h
  | some a => exact ⟨a, rfl, h⟩
theorem op_cl2 {α β σ : Type} {o : Option (α × σ)} {k : α → σ → Option β} {y : β} (h : cl2 o k = some y) : ∃ a s, o = some (a, s) ∧ k a s = some y := by
  cases o with
  | none => cases h
  | some a => exact ⟨a.1, a.2, rfl, h⟩
theorem op_gd {β : Type} {P : Prop} [Decidable P] {k : Option β} {y : β} (h : gd P k = some y) : P ∧ k = some y := by
  unfold gd at h
  by_cases c : P
  · rw [if_pos c] at h; exact ⟨c, h⟩
  · rw [if_neg c] at h; cases h
theorem op_st {α β : Type} {v : α} {k : α → Option β} {y : β} (h : st v k = some y) : ∃ x, x = v ∧ k x = some y := ⟨v, rfl, h⟩
theorem op_if {β : Type} {P : Prop} [Decidable P] {a b : β} {y : β} (h : (if P then a else b) = y) : (P → a = y) ∧ (¬ P → b = y) := ⟨fun c => by rw [if_pos c] at h; exact h, fun c => by rw [if_neg c] at h; exact h⟩
theorem op_lp {σ β : Type} {body : σ → Option (σ ⊕ β)} {n : Nat} {s : σ} {y : β} (h : lp body n s = some y) : ∃ n1, n = n1 + 1 ∧ ((∃ s1, body s = some (.inl s1) ∧ lp body n1 s1 = some y) ∨ body s = some (.inr y)) := by
  cases n with
  | zero => cases h
  | succ n =>
    refine ⟨n, rfl, ?_⟩
    unfold lp at h
    cases hb : body s with
    | none => rw [hb] at h; cases h
    | some r =>
      rw [hb] at h
      cases r with
      | inl s1 => exact Or.inl ⟨s1, rfl, h⟩
      | inr b => exact Or.inr (by rw [Option.some.inj h])
/-- what a method gives back: the answer, and the world behind it -/
def zQ0 (Γ : zG) (lo : zId → Nat) (S0 S : zSt) (X : va_W) (v : Option Value) (E : Prop) : Array Value → State → Outcome → State → Prop := fun _ st oc t =>
  oc = .returned v ∧ Wd Γ lo S X t.heap ∧ ((∀ c, zV S c = zV S0 c) ∧ E) ∧ va_F (zA Γ) st t
def zP0 (Γ : zG) (lo : zId → Nat) (S : zSt) (X : va_W) (av : List Value) : Array Value → State → Prop := fun v U => v = av.toArray ∧ Wd Γ lo S X U.heap ∧ KK Γ U
section ZR
variable {p : Program} {l : Launch} {e : Env} {R : Room} {s : State} {m : MethodId} {args : Array Value} {below : List Frame} {meth : Method} {c : Code} {H : Heap} {locs : List Loc} {cells slots : Nat} {Q : State → Prop}
variable {cc : ByteArray} {pc : Nat} {ls : Array Slot} {rest : List Value} {Γ : zG} {lo : zId → Nat} {S : zSt} {X : va_W} {H0 : Heap}
theorem g_put (hexec : p.tables.exec = Jvm.exec) (hb : c.code = cc) {own C : String} {T : u_T} {N ci index : Nat} {Ts : List Cond} (hts : ∀ w ∈ Ts, w.before args s = true) (hin : ∀ w ∈ u_ws C T N, w ∈ Ts) (ty0 : Nat → FieldType) (hty : ∀ k, k < N → parseFieldDescriptor (T k).2.2.1 = some (ty0 k)) (hnm : ∀ a, a < N → ∀ b, b < N → a ≠ b → (T a).2.1 ≠ (T b).2.1)
    (hown : s.vm.findClass own = some m.cls) (hK : va_K Γ.1 vwCl (zTy Γ) s) (hW : Wd Γ lo S X H) (hS0 : va_S (zA Γ) H0 H locs) {c0 : zId} (hv : zV S c0 = true) {fs : List Value} (he : ct Γ lo S c0 = .inr (ci, fs)) (hc : vwCl[ci]? = some (C, T, N)) (k : Nat) (hk : k < N)
    (hlink : (Cond.fieldLink own index C (T k).2.1 (T k).2.2.1).before args s = true) (hTC : (T k).1 = C) (hfin : (T k).2.2.2 = false) {v : Int32} (hd : parseFieldDescriptor (T k).2.2.1 = some .int) (hl : k < fs.length) (hE : (.inr (ci, fs.set k (.int v)) : va_E) = shp Γ lo c0 (upd (zI S c0) k v) (zL S c0) (zQ S c0) (zN S c0)) (hdg : decode cc pc = .ok (.putfield index, 3))
    {S1 : zSt} (h1 : S1 = pI S c0 k v) (kk : ∀ (H1 : Heap) (locs1 : List Loc), Wd Γ lo S1 X H1 → va_S (zA Γ) H0 H1 locs1 → W p l e R s m args below meth c H1 locs1 cells slots Q (F0 m (pc + 3) ls rest)) : W p l e R s m args below meth c H locs cells slots Q (F0 m pc ls (.int v :: .ref (lo c0) :: rest)) := by
  obtain ⟨ws, q0, hq, hP, hD, hback⟩ := wd_set (S1 := pI S c0 k v) hW hv (fun _ => rfl) hW.2.1 (fun d hd => ct_pIn Γ lo S hd k v)
  rw [he] at hq
  refine va_put hexec hb hts hin ty0 hty hnm hown hK hP hD hS0 q0 hq hc k hk hlink (fun x h => by rw [hTC] at h; exact h) hfin hd rfl rfl hl hdg (fun H1 locs1 hP1 hD1 hS1 => ?_)
  rw [hE, ← ct_pIs] at hP1 hD1
  subst h1
  exact kk H1 locs1 (hback H1 hP1 hD1) hS1
theorem g_iast (hexec : p.tables.exec = Jvm.exec) (hb : c.code = cc) (hK : va_K Γ.1 vwCl (zTy Γ) s) (hW : Wd Γ lo S X H) (hS : va_S (zA Γ) H0 H locs) {c0 : zId} (hv : zV S c0 = true) {n : Nat} (he : ∀ I L Q N, shp Γ lo c0 I L Q N = .inl (Γ.2.1 0, n, .inl I)) {i x : Int32} (hin : vp_in i n) (hdg : decode cc pc = .ok (.iastore, 1))
    {S1 : zSt} (h1 : S1 = pI S c0 i.toNatClampNeg x) (kk : ∀ (H1 : Heap) (locs1 : List Loc), Wd Γ lo S1 X H1 → va_S (zA Γ) H0 H1 locs1 → W p l e R s m args below meth c H1 locs1 cells slots Q (F0 m (pc + 1) ls rest)) : W p l e R s m args below meth c H locs cells slots Q (F0 m pc ls (.int x :: .int i :: .ref (lo c0) :: rest)) := by
  obtain ⟨ws, q0, hq, hP, hD, hback⟩ := wd_set (S1 := pI S c0 i.toNatClampNeg x) hW hv (fun _ => rfl) hW.2.1 (fun d hd => ct_pIn Γ lo S hd _ x)
  have hq2 : ws[q0]? = some (lo c0, .inl (Γ.2.1 0, n, .inl (zI S c0))) := hq.trans (by rw [show ct Γ lo S c0 = _ from he _ _ _ _])
  refine va_iast hexec hb hK hP hD hS q0 0 hq2 rfl hin hdg (fun H1 locs1 hP1 hD1 hS1 => ?_)
  rw [← he (upd (zI S c0) i.toNatClampNeg x) (zL S c0) (zQ S c0) (zN S c0), ← ct_pIs] at hP1 hD1
  subst h1
  exact kk H1 locs1 (hback H1 hP1 hD1) hS1
theorem g_zast (hexec : p.tables.exec = Jvm.exec) (hb : c.code = cc) (hK : va_K Γ.1 vwCl (zTy Γ) s) (hW : Wd Γ lo S X H) (hS : va_S (zA Γ) H0 H locs) {c0 : zId} (hv : zV S c0 = true) {n : Nat} (he : ∀ I L Q N, shp Γ lo c0 I L Q N = .inl (Γ.2.1 2, n, .inl I)) {i x : Int32} (hin : vp_in i n) (hdg : decode cc pc = .ok (.bastore, 1))
    {S1 : zSt} (h1 : S1 = pI S c0 i.toNatClampNeg (vp_nar .boolean x)) (kk : ∀ (H1 : Heap) (locs1 : List Loc), Wd Γ lo S1 X H1 → va_S (zA Γ) H0 H1 locs1 → W p l e R s m args below meth c H1 locs1 cells slots Q (F0 m (pc + 1) ls rest)) : W p l e R s m args below meth c H locs cells slots Q (F0 m pc ls (.int x :: .int i :: .ref (lo c0) :: rest)) := by
  obtain ⟨ws, q0, hq, hP, hD, hback⟩ := wd_set (S1 := pI S c0 i.toNatClampNeg (vp_nar .boolean x)) hW hv (fun _ => rfl) hW.2.1 (fun d hd => ct_pIn Γ lo S hd _ _)
  have hq2 : ws[q0]? = some (lo c0, .inl (Γ.2.1 2, n, .inl (zI S c0))) := hq.trans (by rw [show ct Γ lo S c0 = _ from he _ _ _ _])
  refine va_zast hexec hb hK hP hD hS q0 2 hq2 rfl hin hdg (fun H1 locs1 hP1 hD1 hS1 => ?_)
  rw [← he (upd (zI S c0) i.toNatClampNeg (vp_nar .boolean x)) (zL S c0) (zQ S c0) (zN S c0), ← ct_pIs] at hP1 hD1
  subst h1
  exact kk H1 locs1 (hback H1 hP1 hD1) hS1
theorem g_last (hexec : p.tables.exec = Jvm.exec) (hb : c.code = cc) (hK : va_K Γ.1 vwCl (zTy Γ) s) (hW : Wd Γ lo S X H) (hS : va_S (zA Γ) H0 H locs) {c0 : zId} (hv : zV S c0 = true) {n : Nat} (he : ∀ I L Q N, shp Γ lo c0 I L Q N = .inl (Γ.2.1 1, n, .inr (.inl L))) {i : Int32} {x : Int64} (hin : vp_in i n) (hdg : decode cc pc = .ok (.lastore, 1))
    {S1 : zSt} (h1 : S1 = pL S c0 i.toNatClampNeg x) (kk : ∀ (H1 : Heap) (locs1 : List Loc), Wd Γ lo S1 X H1 → va_S (zA Γ) H0 H1 locs1 → W p l e R s m args below meth c H1 locs1 cells slots Q (F0 m (pc + 1) ls rest)) : W p l e R s m args below meth c H locs cells slots Q (F0 m pc ls (.long x :: .int i :: .ref (lo c0) :: rest)) := by
  obtain ⟨ws, q0, hq, hP, hD, hback⟩ := wd_set (S1 := pL S c0 i.toNatClampNeg x) hW hv (fun _ => rfl) hW.2.1 (fun d hd => ct_pLn Γ lo S hd _ x)
  have hq2 : ws[q0]? = some (lo c0, .inl (Γ.2.1 1, n, .inr (.inl (zL S c0)))) := hq.trans (by rw [show ct Γ lo S c0 = _ from he _ _ _ _])
  refine va_last hexec hb hK hP hD hS q0 1 hq2 rfl hin hdg (fun H1 locs1 hP1 hD1 hS1 => ?_)
  rw [← he (zI S c0) (vp_updL (zL S c0) i.toNatClampNeg x) (zQ S c0) (zN S c0), ← ct_pLs] at hP1 hD1
  subst h1
  exact kk H1 locs1 (hback H1 hP1 hD1) hS1
/-- the ends -/
theorem z_iret (hexec : p.tables.exec = Jvm.exec) (hb : c.code = cc) {ty : FieldType} (hr : meth.sig.returnType = some ty) (hlocks : meth.locks = false) {X1 : va_W} {S0 S1 : zSt} {E : Prop} {v : Int32} (hn : narrow ty (.int v) = .int v) (hW : Wd Γ lo S1 X1 H) (hS : va_S (zA Γ) s.heap H locs) (hm : ∀ c, zV S1 c = zV S0 c) (hE : E) (hdg : decode cc pc = .ok (.ireturn, 1)) :
    W p l e R s m args below meth c H locs cells slots (MQ below (zQ0 Γ lo S0 S1 X1 (some (.int v)) E) args s cells slots (zA Γ)) (F0 m pc ls [.int v]) :=
  W.zret hexec hb hr hn (fun t ht _ => ⟨rfl, by rw [ht]; exact hW, ⟨hm, hE⟩, hS.F ht⟩) hS.2.2 hdg hlocks
theorem z_lret (hexec : p.tables.exec = Jvm.exec) (hb : c.code = cc) (hr : meth.sig.returnType = some .long) (hlocks : meth.locks = false) {X1 : va_W} {S0 S1 : zSt} {E : Prop} {v : Int64} (hW : Wd Γ lo S1 X1 H) (hS : va_S (zA Γ) s.heap H locs) (hm : ∀ c, zV S1 c = zV S0 c) (hE : E) (hdg : decode cc pc = .ok (.lreturn, 1)) :
    W p l e R s m args below meth c H locs cells slots (MQ below (zQ0 Γ lo S0 S1 X1 (some (.long v)) E) args s cells slots (zA Γ)) (F0 m pc ls [.long v]) :=
  W.lret hexec hb hr (fun t ht _ => ⟨rfl, by rw [ht]; exact hW, ⟨hm, hE⟩, hS.F ht⟩) hS.2.2 hdg hlocks
theorem z_vret (hexec : p.tables.exec = Jvm.exec) (hb : c.code = cc) (hr : meth.sig.returnType = none) (hlocks : meth.locks = false) {X1 : va_W} {S0 S1 : zSt} {E : Prop} (hW : Wd Γ lo S1 X1 H) (hS : va_S (zA Γ) s.heap H locs) (hm : ∀ c, zV S1 c = zV S0 c) (hE : E) (hdg : decode cc pc = .ok (.return_, 1)) :
    W p l e R s m args below meth c H locs cells slots (MQ below (zQ0 Γ lo S0 S1 X1 none E) args s cells slots (zA Γ)) (F0 m pc ls []) :=
  W.vret hexec hb hr (fun t ht _ => ⟨rfl, by rw [ht]; exact hW, ⟨hm, hE⟩, hS.F ht⟩) hS.2.2 hdg hlocks
theorem z_aret (hexec : p.tables.exec = Jvm.exec) (hb : c.code = cc) {C : String} (hr : meth.sig.returnType = some (.object C)) (hlocks : meth.locks = false) {X1 : va_W} {S0 S1 : zSt} {E : Prop} {o : Option Nat} (hW : Wd Γ lo S1 X1 H) (hS : va_S (zA Γ) s.heap H locs) (hm : ∀ c, zV S1 c = zV S0 c) (hE : E) (hdg : decode cc pc = .ok (.areturn, 1)) :
    W p l e R s m args below meth c H locs cells slots (MQ below (zQ0 Γ lo S0 S1 X1 (some (va_rf o)) E) args s cells slots (zA Γ)) (F0 m pc ls [va_rf o]) :=
  W.aret hexec hb hr (Or.inl ⟨C, rfl⟩) (by cases o with | none => exact Or.inl rfl | some a => exact Or.inr ⟨a, rfl⟩) (fun t ht _ => ⟨rfl, by rw [ht]; exact hW, ⟨hm, hE⟩, hS.F ht⟩) hS.2.2 hdg hlocks
/-- the calls: what the callee gives back is known -/
theorem z_go {mc ms : Nat} {X1 : va_W} {lo1 : zId → Nat} {S0 S1 : zSt} {E : Prop} {v : Option Value} {a : Array Value} {st0 : List Value} (hr : va_Run p l e R s m args below meth c H locs cells slots mc ms (F0 m pc ls st0) rest (zQ0 Γ lo1 S0 S1 X1 v E a) (zA Γ)) (hS : va_S (zA Γ) s.heap H locs)
    (kk : ∀ (H1 : Heap) (locs1 : List Loc), Wd Γ lo1 S1 X1 H1 → va_S (zA Γ) s.heap H1 locs1 → (∀ c, zV S1 c = zV S0 c) → E → W p l e R s m args below meth c H1 locs1 (cells + mc) (slots + ms) Q (F0 m (pc + 3) ls (v.toList ++ rest))) : W p l e R s m args below meth c H locs cells slots Q (F0 m pc ls st0) := by
  intro T hT Xs
  obtain ⟨v1, st₀, t, T', L, h0, X', hL, e1, e2, ⟨hv, hw, ⟨hmm, hE⟩, hz, hk⟩, hst⟩ := hr T hT Xs
  cases hv
  rw [h0] at hz hk
  obtain ⟨t2, a1, b1⟩ := kk T'.heap (locs ++ L) (by rw [e1]; exact hw)
    ⟨Nat.le_trans hS.1 (by rw [e1]; exact hz), fun q h1 h2 => by rw [e1, hk q (Nat.lt_of_lt_of_le h1 hS.1) h2]; exact hS.2.1 q h1 h2, fun q hq => by
      rcases List.mem_append.mp hq with h | h
      · exact hS.2.2 q h
      · exact hL q h⟩ hmm hE T' rfl X'
  exact ⟨t2, hst t2 a1, b1⟩
theorem z_callV {Ts ws : List Cond} {bytes : ByteArray} {nL maxL index n mc ms : Nat} {own C : String} {y : MethodName} {ret : Option FieldType} {rm : Room} {X1 : va_W} {lo1 : zId → Nat} {S0 S1 : zSt} {E : Prop} {v : Option Value} {b : Addr} {As : List Value} {ci : Nat} {fs : List Value} {T : u_T} {NN : Nat}
    (F : CallFix p m c cc nL s args Ts own) (hM : Met l y ws rm (zP0 Γ lo S X (.ref b :: As)) (zQ0 Γ lo1 S0 S1 X1 v E) mc ms (zA Γ)) (cw : CallW R s args own C index y bytes maxL ret ws rm mc ms n) (hP : va_P Γ.1 vwCl [(b, .inr (ci, fs))] H) (hc : vwCl[ci]? = some (C, T, NN)) (hKK : KK Γ s) (hW : Wd Γ lo S X H) (hS : va_S (zA Γ) s.heap H locs)
    (hn : As.length = n) (hsize : ls.size = nL) {st0 : List Value} (hst : st0 = As.reverse ++ .ref b :: rest) (hR : (rest.map fun v => v.category).sum ≤ 8) (hdg : decode cc pc = .ok (.invokevirtual index, 3)) (hf : cells + mc ≤ R.cells ∧ slots + ms ≤ R.slots)
    (kk : ∀ (H1 : Heap) (locs1 : List Loc), Wd Γ lo1 S1 X1 H1 → va_S (zA Γ) s.heap H1 locs1 → (∀ c, zV S1 c = zV S0 c) → E → W p l e R s m args below meth c H1 locs1 (cells + mc) (slots + ms) Q (F0 m (pc + 3) ls (v.toList ++ rest))) : W p l e R s m args below meth c H locs cells slots Q (F0 m pc ls st0) :=
  z_go (va_runV F hM cw ⟨fun _ _ _ _ q => q, va_recv (q0 := 0) hKK.1 hP hc rfl, fun _ hU hW1 => ⟨rfl, by rw [hU]; exact hW, hKK.go hS hU hW1⟩⟩ rfl hn hsize hst (lv_room hR) hdg hf) hS kk
theorem z_callS {Ts ws : List Cond} {bytes : ByteArray} {nL maxL index n mc ms : Nat} {own : String} {y : MethodName} {ret : Option FieldType} {rm : Room} {X1 : va_W} {lo1 : zId → Nat} {S0 S1 : zSt} {E : Prop} {v : Option Value} {As : List Value}
    (F : CallFix p m c cc nL s args Ts own) (hM : Met l y ws rm (zP0 Γ lo S X As) (zQ0 Γ lo1 S0 S1 X1 v E) mc ms (zA Γ)) (cw : CallB R s args own index y bytes maxL ret ws rm mc ms n ∧ (Cond.static y).before args s = true) (hKK : KK Γ s) (hW : Wd Γ lo S X H) (hS : va_S (zA Γ) s.heap H locs)
    (hn : As.length = n) (hsize : ls.size = nL) {st0 : List Value} (hst : st0 = As.reverse ++ rest) (hR : (rest.map fun v => v.category).sum ≤ 8) (hdg : decode cc pc = .ok (.invokestatic index, 3)) (hf : cells + mc ≤ R.cells ∧ slots + ms ≤ R.slots)
    (kk : ∀ (H1 : Heap) (locs1 : List Loc), Wd Γ lo1 S1 X1 H1 → va_S (zA Γ) s.heap H1 locs1 → (∀ c, zV S1 c = zV S0 c) → E → W p l e R s m args below meth c H1 locs1 (cells + mc) (slots + ms) Q (F0 m (pc + 3) ls (v.toList ++ rest))) : W p l e R s m args below meth c H locs cells slots Q (F0 m pc ls st0) :=
  z_go (va_runS F hM cw ⟨fun _ _ _ _ q => q, fun _ hU hW1 => ⟨rfl, by rw [hU]; exact hW, hKK.go hS hU hW1⟩⟩ rfl hn hsize hst (lv_room hR) hdg hf) hS kk
theorem z_istn {x y : Int32} (hy : y = x) (hexec : p.tables.exec = Jvm.exec) (hb : c.code = cc) {k : Fin 4} {i nL : Nat} {lv lv' : List (Nat × Value)} (hdg : decode cc pc = .ok (.istore_n k, 1)) (hi : (k : Nat) = i) (h : lv_has ls nL lv) (hn : i < nL) (hl : (i, Value.int y) :: lv.filter (fun q => !(q.1 == i) && !(q.1 + 1 == i && q.2.category == 2)) = lv')
    (kk : ∀ ls' : Array Slot, lv_has ls' nL lv' → W p l e R s m args below meth c H locs cells slots Q (F0 m (pc + 1) ls' rest)) : W p l e R s m args below meth c H locs cells slots Q (F0 m pc ls (.int x :: rest)) := by
  subst hy
  exact lv_istore_n hexec hb hdg hi h hn hl kk
theorem z_ist {x y : Int32} (hy : y = x) (hexec : p.tables.exec = Jvm.exec) (hb : c.code = cc) {i nL : Nat} {lv lv' : List (Nat × Value)} (hdg : decode cc pc = .ok (.istore i, 2)) (h : lv_has ls nL lv) (hn : i < nL) (hl : (i, Value.int y) :: lv.filter (fun q => !(q.1 == i) && !(q.1 + 1 == i && q.2.category == 2)) = lv')
    (kk : ∀ ls' : Array Slot, lv_has ls' nL lv' → W p l e R s m args below meth c H locs cells slots Q (F0 m (pc + 2) ls' rest)) : W p l e R s m args below meth c H locs cells slots Q (F0 m pc ls (.int x :: rest)) := by
  subst hy
  exact lv_istore hexec hb hdg h hn hl kk
theorem z_lst {x y : Int64} (hy : y = x) (hexec : p.tables.exec = Jvm.exec) (hb : c.code = cc) {i nL : Nat} {lv lv' : List (Nat × Value)} (hdg : decode cc pc = .ok (.lstore i, 2)) (h : lv_has ls nL lv) (hn : i + 1 < nL) (hl : (i, Value.long y) :: lv.filter (fun q => !(q.1 == i) && (!(q.1 == i + 1) && !(q.1 + 1 == i && q.2.category == 2))) = lv')
    (kk : ∀ ls' : Array Slot, lv_has ls' nL lv' → W p l e R s m args below meth c H locs cells slots Q (F0 m (pc + 2) ls' rest)) : W p l e R s m args below meth c H locs cells slots Q (F0 m pc ls (.long x :: rest)) := by
  subst hy
  exact lv_lstore hexec hb hdg h hn hl kk
/-- a mode, or none, out of a row of modes -/
theorem z_aldq (hexec : p.tables.exec = Jvm.exec) (hb : c.code = cc) (hK : va_K Γ.1 vwCl (zTy Γ) s) (hW : Wd Γ lo S X H) {a b : Nat} (hv : zV S (13, a, b) = true) {i : Int32} (hin : vp_in i 4) (hdg : decode cc pc = .ok (.aaload, 1))
    (kk : W p l e R s m args below meth c H locs cells slots Q (F0 m (pc + 1) ls (va_rf ((zQ S (13, a, b) i.toNatClampNeg).map (fun n => lo (4, n, 0))) :: rest))) : W p l e R s m args below meth c H locs cells slots Q (F0 m pc ls (.int i :: .ref (lo (13, a, b)) :: rest)) :=
  va_aldq hexec hb hK (wd_1 hW hv) 0 3 (C := "TiltRoute$Mode") rfl rfl hin hdg kk
theorem z_aret2 (hexec : p.tables.exec = Jvm.exec) (hb : c.code = cc) {C : String} (hr : meth.sig.returnType = some (.object C)) (hlocks : meth.locks = false) {X1 : va_W} {S0 S1 : zSt} {E : Prop} {a : Nat} (hW : Wd Γ lo S1 X1 H) (hS : va_S (zA Γ) s.heap H locs) (hm : ∀ c, zV S1 c = zV S0 c) (hE : E) (hdg : decode cc pc = .ok (.areturn, 1)) :
    W p l e R s m args below meth c H locs cells slots (MQ below (zQ0 Γ lo S0 S1 X1 (some (.ref a)) E) args s cells slots (zA Γ)) (F0 m pc ls [.ref a]) :=
  z_aret (o := some a) hexec hb hr hlocks hW hS hm hE hdg
end ZR
theorem op_omN {β : Type} {a : Option β} {k : Nat → Option β} {y : Option β} (h : om none a k = y) : a = y := h
theorem op_omS {β : Type} {a : Option β} {k : Nat → Option β} {n : Nat} {y : Option β} (h : om (some n) a k = y) : k n = y := h
/-- the loop's round, and what comes behind it -/
def zr {σ β : Type} (b : σ → Option (σ ⊕ β)) (n : Nat) (y : β) (r : σ ⊕ β) : Prop := match r with
  | .inl q => lp b n q = some y
  | .inr v => v = y
theorem op_lq {σ β : Type} {b : σ → Option (σ ⊕ β)} {n : Nat} {q : σ} {y : β} (h : lp b n q = some y) : ∃ n1 r, n = n1 + 1 ∧ b q = some r ∧ zr b n1 y r := by
  obtain ⟨n1, e, h⟩ := op_lp h
  rcases h with ⟨s1, h1, h2⟩ | h1
  · exact ⟨n1, _, e, h1, h2⟩
  · exact ⟨n1, _, e, h1, rfl⟩
theorem op_lb {σ β : Type} {b : σ → Option (σ ⊕ β)} {n : Nat} {q : σ} {y : β} (h : lp b n q = some y) : ∃ (b1 : σ → Option (σ ⊕ β)) (q1 : σ), b1 = b ∧ q1 = q ∧ lp b1 n q1 = some y := ⟨b, q, rfl, rfl, h⟩
theorem zr_l {σ β : Type} {b : σ → Option (σ ⊕ β)} {n : Nat} {y : β} {r : σ ⊕ β} {q : σ} (h : some (Sum.inl q) = some r) (hr : zr b n y r) : lp b n q = some y := by
  cases h
  exact hr
theorem zr_r {σ β : Type} {b : σ → Option (σ ⊕ β)} {n : Nat} {y : β} {r : σ ⊕ β} {v : β} (h : some (Sum.inr v) = some r) (hr : zr b n y r) : v = y := by
  cases h
  exact hr
theorem z_b0 : narrow .boolean (.int 0) = .int 0 := by decide
theorem z_b1 : narrow .boolean (.int 1) = .int 1 := by decide
theorem z_bb {v : Int32} (h : v = 0 ∨ v = 1) : narrow .boolean (.int v) = .int v := by
  rcases h with rfl | rfl
  · exact z_b0
  · exact z_b1
-- what is referred to, is there
section ZV
variable {Γ : zG} {lo : zId → Nat} {S : zSt} {X : va_W} {H : Heap} {a b : Nat}
theorem vf_3_1 (hW : Wd Γ lo S X H) (hv : zV S (3, a, 0) = true) : zV S (7, 1, a) = true := hW.2.1 _ _ hv (Or.inl rfl)
theorem vf_3_2 (hW : Wd Γ lo S X H) (hv : zV S (3, a, 0) = true) : zV S (6, 0, a) = true := hW.2.1 _ _ hv (Or.inr (Or.inl rfl))
theorem vf_3_3 (hW : Wd Γ lo S X H) (hv : zV S (3, a, 0) = true) : zV S (16, a, 0) = true := hW.2.1 _ _ hv (Or.inr (Or.inr rfl))
theorem vf_5_0 (hW : Wd Γ lo S X H) (hv : zV S (5, 0, 0) = true) : zV S (17, 0, 0) = true := hW.2.1 _ _ hv (Or.inl rfl)
theorem vf_5_1 (hW : Wd Γ lo S X H) (hv : zV S (5, 0, 0) = true) : zV S (18, 0, 0) = true := hW.2.1 _ _ hv (Or.inr (Or.inl rfl))
theorem vf_5_2 (hW : Wd Γ lo S X H) (hv : zV S (5, 0, 0) = true) : zV S (19, 0, 0) = true := hW.2.1 _ _ hv (Or.inr (Or.inr rfl))
theorem vf_6_0 (hW : Wd Γ lo S X H) (hv : zV S (6, a, b) = true) : zV S (14, a, b) = true := hW.2.1 _ _ hv (Or.inl rfl)
theorem vf_6_1 (hW : Wd Γ lo S X H) (hv : zV S (6, a, b) = true) : zV S (15, a, b) = true := hW.2.1 _ _ hv (Or.inr rfl)
theorem vf_7_0 (hW : Wd Γ lo S X H) (hv : zV S (7, a, b) = true) : zV S (12, a, b) = true := hW.2.1 _ _ hv (Or.inl rfl)
theorem vf_7_1 (hW : Wd Γ lo S X H) (hv : zV S (7, a, b) = true) : zV S (13, a, b) = true := hW.2.1 _ _ hv (Or.inr rfl)
theorem vf_8_2 (hW : Wd Γ lo S X H) (hv : zV S (8, a, 0) = true) : zV S (0, a + 2, 0) = true := hW.2.1 _ _ hv (Or.inl rfl)
theorem vf_8_3 (hW : Wd Γ lo S X H) (hv : zV S (8, a, 0) = true) : zV S (7, 0, a) = true := hW.2.1 _ _ hv (Or.inr rfl)
theorem vf_9_0 (hW : Wd Γ lo S X H) (hv : zV S (9, a, 0) = true) : zV S (20, a, 0) = true := hW.2.1 _ _ hv rfl
theorem vf_10_0 (hW : Wd Γ lo S X H) (hv : zV S (10, 0, 0) = true) : zV S (0, 0, 0) = true := hW.2.1 _ _ hv (Or.inl rfl)
theorem vf_10_1 (hW : Wd Γ lo S X H) (hv : zV S (10, 0, 0) = true) : zV S (0, 1, 0) = true := hW.2.1 _ _ hv (Or.inr (Or.inl rfl))
theorem vf_10_2 (hW : Wd Γ lo S X H) (hv : zV S (10, 0, 0) = true) : zV S (9, 0, 0) = true := hW.2.1 _ _ hv (Or.inr (Or.inr (Or.inl rfl)))
theorem vf_10_3 (hW : Wd Γ lo S X H) (hv : zV S (10, 0, 0) = true) : zV S (9, 1, 0) = true := hW.2.1 _ _ hv (Or.inr (Or.inr (Or.inr (Or.inl rfl))))
theorem vf_10_4 (hW : Wd Γ lo S X H) (hv : zV S (10, 0, 0) = true) : zV S (21, 0, 0) = true := hW.2.1 _ _ hv (Or.inr (Or.inr (Or.inr (Or.inr (Or.inl rfl)))))
theorem vf_10_5 (hW : Wd Γ lo S X H) (hv : zV S (10, 0, 0) = true) : zV S (6, 1, 0) = true := hW.2.1 _ _ hv (Or.inr (Or.inr (Or.inr (Or.inr (Or.inr (Or.inl rfl))))))
theorem vf_10_6 (hW : Wd Γ lo S X H) (hv : zV S (10, 0, 0) = true) : zV S (5, 0, 0) = true := hW.2.1 _ _ hv (Or.inr (Or.inr (Or.inr (Or.inr (Or.inr (Or.inr (Or.inl rfl)))))))
theorem vf_10_7 (hW : Wd Γ lo S X H) (hv : zV S (10, 0, 0) = true) : zV S (22, 0, 0) = true := hW.2.1 _ _ hv (Or.inr (Or.inr (Or.inr (Or.inr (Or.inr (Or.inr (Or.inr rfl)))))))
theorem vf_13 (hW : Wd Γ lo S X H) (hv : zV S (13, a, b) = true) {k n : Nat} (hk : k < 4) (h : zQ S (13, a, b) k = some n) : zV S (4, n, 0) = true := hW.2.1 _ _ hv ⟨k, n, h, rfl⟩
theorem z_in4 {i : Int32} (h : ¬ (i < 0 ∨ 4 ≤ i.toNatClampNeg)) : i.toNatClampNeg < 4 := Nat.lt_of_not_le (fun q => h (Or.inr q))
end ZV
