/-! METHODS THAT THROW: two contracts each: what returns, makes nothing; what throws, makes one exception -/
def cx {α β : Type} (o : Option ((Nat × zSt) ⊕ α)) (k : α → Option ((Nat × zSt) ⊕ β)) : Option ((Nat × zSt) ⊕ β) := match o with
  | none => none
  | some (.inl e) => some (.inl e)
  | some (.inr a) => k a
def cx2 {α β : Type} (o : Option ((Nat × zSt) ⊕ (α × zSt))) (k : α → zSt → Option ((Nat × zSt) ⊕ β)) : Option ((Nat × zSt) ⊕ β) := match o with
  | none => none
  | some (.inl e) => some (.inl e)
  | some (.inr a) => k a.1 a.2
theorem op_cx {α β : Type} {o : Option ((Nat × zSt) ⊕ α)} {k : α → Option ((Nat × zSt) ⊕ β)} {y : (Nat × zSt) ⊕ β} (h : cx o k = some y) : (∃ e, o = some (.inl e) ∧ Sum.inl e = y) ∨ ∃ a, o = some (.inr a) ∧ k a = some y := by
  cases o with
  | none => cases h
  | some r =>
    cases r with
    | inl e => exact Or.inl ⟨e, rfl, Option.some.inj h⟩
    | inr a => exact Or.inr ⟨a, rfl, h⟩
theorem op_cx2 {α β : Type} {o : Option ((Nat × zSt) ⊕ (α × zSt))} {k : α → zSt → Option ((Nat × zSt) ⊕ β)} {y : (Nat × zSt) ⊕ β} (h : cx2 o k = some y) : (∃ e, o = some (.inl e) ∧ Sum.inl e = y) ∨ ∃ a s, o = some (.inr (a, s)) ∧ k a s = some y := by
  cases o with
  | none => cases h
  | some r =>
    cases r with
    | inl e => exact Or.inl ⟨e, rfl, Option.some.inj h⟩
    | inr a => exact Or.inr ⟨a.1, a.2, rfl, h⟩
def zEx (n : Nat) : String := if n = 1 then "java/lang/IndexOutOfBoundsException" else if n = 2 then "java/lang/IllegalArgumentException" else "java/lang/IllegalStateException"
def zStr : List (Nat × String) := [(65, "there are 6 tables"), (90, "the table has 8 bumpers"), (134, "the switch sticks"), (136, "there were 60 stickings"), (141, "there were 40 games"), (164, "no game is on at the table"), (220, "there are fewer coins in the box"), (232, "the van would have more than 20"), (262, "no table needs service"), (277, "there is no such table"), (280, "there is no such switch"), (282, "there is no such game"), (284, "there is no such van"), (286, "there is no such one"), (290, "an argument is out of its range"), (293, "an argument is too low"), (295, "a game is on at the table")]
abbrev zXn : List String := ["java/lang/RuntimeException", "java/lang/Exception"]
/-- what a throw wants of the tables, and no word that is kept says -/
def KX (U : State) : Prop := (∀ z ∈ zStr, ∃ a, vk_R "TiltRoute" z.1 z.2 a U) ∧ (∀ X ∈ (["java/lang/RuntimeException", "java/lang/Exception", Bundle.tN] : List String), va_Nw (.declares (Bundle.initS X)) U) ∧ ∀ n : Nat, va_Nw (.castable (zEx n) (zEx n)) U
theorem KX.go {s U : State} (h : KX s) (hW : s.WarmedH U.vm) : KX U := by
  obtain ⟨h1, h2, h3⟩ := h
  refine ⟨fun z hz => ?_, fun X hX => (h2 X hX).warmD hW, fun n => (h3 n).warmC hW⟩
  obtain ⟨a, ha⟩ := h1 z hz
  exact ⟨a, ha.warm hW⟩
theorem Wd.kept {Γ : zG} {lo : zId → Nat} {S : zSt} {X : va_W} {H H1 : Heap} (h : Wd Γ lo S X H) (hz : H.size ≤ H1.size) (hk : ∀ q : Nat, q < H.size → H1[q]? = H[q]?) : Wd Γ lo S X H1 := by
  obtain ⟨h1, h2, h3, ws, hP, hD, hn⟩ := h
  exact ⟨Nat.le_trans h1 hz, h2, h3, ws, hP.kept (fun k q hq => hk q.1 ((hP k q hq).lt)), hD, hn⟩
def zP1 (Γ : zG) (lo : zId → Nat) (S : zSt) (X : va_W) (av : List Value) : Array Value → State → Prop := fun v U => v = av.toArray ∧ Wd Γ lo S X U.heap ∧ KK Γ U ∧ KX U
def zT (Γ : zG) (lo : zId → Nat) (S0 : zSt) (X : va_W) (ee : Nat × zSt) : String → State → State → Prop := fun E st t => E = zEx ee.1 ∧ Wd Γ lo ee.2 X t.heap ∧ (∀ c, zV ee.2 c = zV S0 c) ∧ va_F (zA Γ) st t
abbrev zF : Array Value → State → Outcome → State → Prop := fun _ _ _ _ => False
section ZX
variable {p : Program} {l : Launch} {e : Env} {R : Room} {s : State} {m : MethodId} {args : Array Value} {below : List Frame} {meth : Method} {c : Code} {H : Heap} {locs : List Loc} {cells slots : Nat} {Q : State → Prop}
variable {cc : ByteArray} {pc : Nat} {ls : Array Slot} {rest : List Value} {Γ : zG} {lo : zId → Nat} {S S0 : zSt} {X : va_W} {H0 : Heap} {Qc : Array Value → State → Outcome → State → Prop}
theorem zx_hat {Ts : List Cond} (hts : ∀ w ∈ Ts, w.before args s = true) (hKX : KX s) (n : Nat) {ic : Nat} (hsub : ∀ w ∈ (vx_atS "TiltRoute" ic (zEx n) zXn).filter goodWord, w ∈ Ts) (h2 : ∀ w ∈ (vx_atS "TiltRoute" ic (zEx n) zXn).filter (fun w => !goodWord w), w ∈ [Cond.castable (zEx n) (zEx n), .declares (Bundle.initS "java/lang/RuntimeException"), .declares (Bundle.initS "java/lang/Exception"), .declares (Bundle.initS Bundle.tN)]) : ∀ w ∈ vx_atS "TiltRoute" ic (zEx n) zXn, w.before args s = true := by
  refine vx_hat (fun w h => hts w (hsub w h)) h2 ?_
  obtain ⟨-, hd, hc⟩ := hKX
  exact vx_c (va_Nw.use rfl (hc n)) (vx_c (va_Nw.use rfl (hd _ (by simp))) (vx_c (va_Nw.use rfl (hd _ (by simp))) (vx_c (va_Nw.use rfl (hd _ (by simp))) vx_n)))
theorem zx_XC {ee : Nat × zSt} (hW : Wd Γ lo ee.2 X H) (hS : va_S (zA Γ) s.heap H locs) (hm : ∀ c, zV ee.2 c = zV S0 c) {cls : String} (hE : cls = zEx ee.1) (t : State) (hz : H.size ≤ t.heap.size) (hk : ∀ q : Nat, q < H.size → t.heap[q]? = H[q]?) : zT Γ lo S0 X ee cls s t :=
  ⟨hE, hW.kept hz hk, hm, Nat.le_trans hS.1 hz, fun q h1 h2 => (hk q (Nat.lt_of_lt_of_le h1 hS.1)).trans (hS.2.1 q h1 h2)⟩
theorem zx_thr (hexec : p.tables.exec = Jvm.exec) (hb : c.code = cc) (hl : l.stackTraces = false) {text : String} {ik is ic : Nat} {Ts : List Cond} (hts : ∀ w ∈ Ts, w.before args s = true) {ee : Nat × zSt}
    (hown : s.vm.findClass "TiltRoute" = some m.cls) (hk : (Cond.classLink "TiltRoute" ik (zEx ee.1)).before args s = true) (hini : (Cond.initialized (zEx ee.1)).before args s = true) (hstr : (is, text) ∈ zStr)
    (hsub : ∀ w ∈ (vx_atS "TiltRoute" ic (zEx ee.1) zXn).filter goodWord, w ∈ Ts) (h2 : ∀ w ∈ (vx_atS "TiltRoute" ic (zEx ee.1) zXn).filter (fun w => !goodWord w), w ∈ [Cond.castable (zEx ee.1) (zEx ee.1), .declares (Bundle.initS "java/lang/RuntimeException"), .declares (Bundle.initS "java/lang/Exception"), .declares (Bundle.initS Bundle.tN)])
    (hfit : Bundle.fit (zEx ee.1) = true) (hgood : ∀ w ∈ Cond.classLink "TiltRoute" ik (zEx ee.1) :: Cond.initialized (zEx ee.1) :: vx_atS "TiltRoute" ic (zEx ee.1) zXn, vx_ot w = true)
    (hKK : KK Γ s) (hKX : KX s) (hS : va_S (zA Γ) s.heap H locs) (hsize : ls.size = c.maxLocals)
    (d0 : decode cc pc = .ok (.new ik, 3)) (d3 : decode cc (pc + 3) = .ok (.dup, 1)) (d4 : decode cc (pc + 4) = .ok (.ldc is, 2)) (d6 : decode cc (pc + 6) = .ok (.invokespecial ic, 3)) (d9 : decode cc (pc + 9) = .ok (.athrow, 1))
    (ht : ∀ x ∈ c.exceptionTable.toList, False) (hRf : 5 < R.frames) (hRl : 82 ≤ R.locals) (hRc : 1 ≤ R.cells) (hRs : 6 ≤ R.slots) (hlocks : meth.locks = false) (hW : Wd Γ lo ee.2 X H) (hm : ∀ c, zV ee.2 c = zV S0 c) :
    W p l e R s m args below meth c H locs 0 0 (vx_MQ below Qc (zT Γ lo S0 X ee) args s 1 6 (zA Γ)) (F0 m pc ls []) := by
  obtain ⟨sa, hsa⟩ := hKX.1 _ hstr
  exact vx_throwS (names := zXn) (A := zA Γ) hexec hb hl hown hfit (by decide) hk hini hsa (zx_hat hts hKX ee.1 hsub h2) hgood hKK.2.2.2.1 hKK.2.2.2.2.1 hS hsize d0 d3 d4 d6 d9 (fun x hx => (ht x hx).elim) hRf (by simpa using hRl) (by omega) (by omega) hlocks (fun t _ hz hk => zx_XC hW hS hm rfl t hz hk) hS.2.2 (by omega) (by omega)
theorem zx_thrW (hexec : p.tables.exec = Jvm.exec) (hb : c.code = cc) (hl : l.stackTraces = false) {text : String} {ik is ic : Nat} {Ts : List Cond} (hts : ∀ w ∈ Ts, w.before args s = true) {ee : Nat × zSt}
    (hown : s.vm.findClass "TiltRoute" = some m.cls) (hk : (Cond.classLink "TiltRoute" ik (zEx ee.1)).before args s = true) (hini : (Cond.initialized (zEx ee.1)).before args s = true) (hstr : (is, text) ∈ zStr)
    (hsub : ∀ w ∈ (vx_atS "TiltRoute" ic (zEx ee.1) zXn).filter goodWord, w ∈ Ts) (h2 : ∀ w ∈ (vx_atS "TiltRoute" ic (zEx ee.1) zXn).filter (fun w => !goodWord w), w ∈ [Cond.castable (zEx ee.1) (zEx ee.1), .declares (Bundle.initS "java/lang/RuntimeException"), .declares (Bundle.initS "java/lang/Exception"), .declares (Bundle.initS Bundle.tN)])
    (hfit : Bundle.fit (zEx ee.1) = true) (hgood : ∀ w ∈ Cond.classLink "TiltRoute" ik (zEx ee.1) :: Cond.initialized (zEx ee.1) :: vx_atS "TiltRoute" ic (zEx ee.1) zXn, vx_ot w = true)
    (hKK : KK Γ s) (hKX : KX s) (hS : va_S (zA Γ) s.heap H locs) (hsize : ls.size = c.maxLocals)
    (d0 : decode cc pc = .ok (.new ik, 3)) (d3 : decode cc (pc + 3) = .ok (.dup, 1)) (d4 : decode cc (pc + 4) = .ok (.ldc_w is, 3)) (d6 : decode cc (pc + 7) = .ok (.invokespecial ic, 3)) (d9 : decode cc (pc + 10) = .ok (.athrow, 1))
    (ht : ∀ x ∈ c.exceptionTable.toList, False) (hRf : 5 < R.frames) (hRl : 82 ≤ R.locals) (hRc : 1 ≤ R.cells) (hRs : 6 ≤ R.slots) (hlocks : meth.locks = false) (hW : Wd Γ lo ee.2 X H) (hm : ∀ c, zV ee.2 c = zV S0 c) :
    W p l e R s m args below meth c H locs 0 0 (vx_MQ below Qc (zT Γ lo S0 X ee) args s 1 6 (zA Γ)) (F0 m pc ls []) := by
  obtain ⟨sa, hsa⟩ := hKX.1 _ hstr
  exact vx_throwSW (names := zXn) (A := zA Γ) hexec hb hl hown hfit (by decide) hk hini hsa (zx_hat hts hKX ee.1 hsub h2) hgood hKK.2.2.2.1 hKK.2.2.2.2.1 hS hsize d0 d3 d4 d6 d9 (fun x hx => (ht x hx).elim) hRf (by simpa using hRl) (by omega) (by omega) hlocks (fun t _ hz hk => zx_XC hW hS hm rfl t hz hk) hS.2.2 (by omega) (by omega)
/-- the callee throws: so does the caller -/
theorem zx_go {ee : Nat × zSt} {S1 : zSt} {a : Array Value} {st0 : List Value} (hr : vx_Run p l e R s m args below meth c H locs 0 0 1 6 (F0 m pc ls st0) rest (zF a) (zT Γ lo S1 X ee) (zA Γ)) (hS : va_S (zA Γ) s.heap H locs) (hm : ∀ c, zV S1 c = zV S0 c) (ht : ∀ x ∈ c.exceptionTable.toList, False) (hlocks : meth.locks = false) :
    W p l e R s m args below meth c H locs 0 0 (vx_MQ below Qc (zT Γ lo S0 X ee) args s 1 6 (zA Γ)) (F0 m pc ls st0) := by
  intro T hT Xs
  rcases hr T hT Xs with ⟨v, st₀, t, T', L, h0, X', hL, e1, e2, hq, hst⟩ | ⟨q, st₀, t, T', L, E, ce, h0, X', hL, e1, e2, ⟨hE, hw, hm1, hF⟩, hce, hcv, hcl, hst⟩
  · exact hq.elim
  · obtain ⟨k1, k2, k3⟩ := vx_keep h0 e1 hS (fun q _ h => h) (fun q h => h) hL hF
    obtain ⟨t2, a1, b1⟩ := vx_out (Qc := Qc) (XC := zT Γ lo S0 X ee) (mc := 1) (ms := 6) (free := zA Γ) (ls := ls) (rest := rest) (fun x hx => (ht x hx).elim) hlocks (by rw [e1]; exact hce) hcv hcl (fun t9 h9 _ => ⟨hE, by rw [h9, e1]; exact hw, fun c => (hm1 c).trans (hm c), k3.F h9⟩) k3.2.2 (by omega) (by omega) T' rfl X'
    exact ⟨t2, hst.trans a1, b1⟩
theorem zx_callV {Ts ws : List Cond} {bytes : ByteArray} {nL maxL index n : Nat} {own C : String} {y : MethodName} {ret : Option FieldType} {rm : Room} {S1 : zSt} {ee : Nat × zSt} {b : Addr} {As : List Value} {ci : Nat} {fs : List Value} {T : u_T} {NN : Nat}
    (F : CallFix p m c cc nL s args Ts own) (hM : vx_Met l y ws rm (zP1 Γ lo S1 X (.ref b :: As)) zF (zT Γ lo S1 X ee) 1 6 (zA Γ)) (cw : CallW R s args own C index y bytes maxL ret ws rm 1 6 n) (hP : va_P Γ.1 vwCl [(b, .inr (ci, fs))] H) (hc : vwCl[ci]? = some (C, T, NN)) (hKK : KK Γ s) (hKX : KX s) (hW : Wd Γ lo S1 X H) (hS : va_S (zA Γ) s.heap H locs) (hm : ∀ c, zV S1 c = zV S0 c)
    (hn : As.length = n) (hsize : ls.size = nL) {st0 : List Value} (hst : st0 = As.reverse ++ .ref b :: rest) (hR : (rest.map fun v => v.category).sum ≤ 8) (hdg : decode cc pc = .ok (.invokevirtual index, 3)) (hf : 0 + 1 ≤ R.cells ∧ 0 + 6 ≤ R.slots) (ht : ∀ x ∈ c.exceptionTable.toList, False) (hlocks : meth.locks = false) :
    W p l e R s m args below meth c H locs 0 0 (vx_MQ below Qc (zT Γ lo S0 X ee) args s 1 6 (zA Γ)) (F0 m pc ls st0) :=
  zx_go (vx_runV F hM cw ⟨fun _ _ _ _ q => q, va_recv (q0 := 0) hKK.1 hP hc rfl, fun _ hU hW1 => ⟨rfl, by rw [hU]; exact hW, hKK.go hS hU hW1, hKX.go hW1⟩⟩ rfl hn hsize hst (lv_room hR) hdg hf) hS hm ht hlocks
theorem zx_callS {Ts ws : List Cond} {bytes : ByteArray} {nL maxL index n : Nat} {own : String} {y : MethodName} {ret : Option FieldType} {rm : Room} {S1 : zSt} {ee : Nat × zSt} {As : List Value}
    (F : CallFix p m c cc nL s args Ts own) (hM : vx_Met l y ws rm (zP1 Γ lo S1 X As) zF (zT Γ lo S1 X ee) 1 6 (zA Γ)) (cw : CallB R s args own index y bytes maxL ret ws rm 1 6 n ∧ (Cond.static y).before args s = true) (hKK : KK Γ s) (hKX : KX s) (hW : Wd Γ lo S1 X H) (hS : va_S (zA Γ) s.heap H locs) (hm : ∀ c, zV S1 c = zV S0 c)
    (hn : As.length = n) (hsize : ls.size = nL) {st0 : List Value} (hst : st0 = As.reverse ++ rest) (hR : (rest.map fun v => v.category).sum ≤ 8) (hdg : decode cc pc = .ok (.invokestatic index, 3)) (hf : 0 + 1 ≤ R.cells ∧ 0 + 6 ≤ R.slots) (ht : ∀ x ∈ c.exceptionTable.toList, False) (hlocks : meth.locks = false) :
    W p l e R s m args below meth c H locs 0 0 (vx_MQ below Qc (zT Γ lo S0 X ee) args s 1 6 (zA Γ)) (F0 m pc ls st0) :=
  zx_go (vx_runS F hM cw ⟨fun _ _ _ _ q => q, fun _ hU hW1 => ⟨rfl, by rw [hU]; exact hW, hKK.go hS hU hW1, hKX.go hW1⟩⟩ rfl hn hsize hst (lv_room hR) hdg hf) hS hm ht hlocks
end ZX
