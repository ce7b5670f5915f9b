/-! THE CLAIM OUT OF ONE WALK OF THE LAW'S BODY. Your part is whole_start (and what it stands on); all else here is the same for every law, but numbers. -/
def R_law : String := "TiltRouteLaw"
def lw_P (b : Addr) (xs : List Int32) (args : Array Value) (s : State) : Prop := args = #[.ref b] ∧ s.IntsAt b xs ∧ xs.length ≤ 260 ∧ (Jvm.Cond.and given_1 narrow_1).before args s = true
def lw_Q (_ : Array Value) (s : State) (o : Outcome) (t : State) : Prop := o = .returned (some (.int 1)) ∧ Framed s o t [] 600086 7301442
def lw_Z (below : List Frame) (a : Array Value) (s : State) : State → Prop := fun t => ∃ o, t.status = .running ∧ Ended t below o ∧ lw_Q a s o t
/-- the law's own end, with 1 on the stack, nothing written that was there before, its room as the claim has it -/
theorem lw_ret {p : Program} {l : Launch} {e : Env} {s : State} {m : MethodId} {below : List Frame} {meth : Method} {c : Code} {b : Nat} (hx : p.tables.exec = Jvm.exec) (hb : c.code = code) (hr : meth.sig.returnType = ret) (hlocks : meth.locks = false) {pc : Nat} {H : Heap} {ls : Array Slot} (hdg : decode code pc = .ok (.ireturn, 1)) : W p l e room_1 s m #[Value.ref b] below meth c H [] 600086 7301442 (lw_Z below #[Value.ref b] s) (F0 m pc ls [.int 1]) := by
  intro T hT X
  obtain ⟨fs, hret, hrun, hended, hW, hframe⟩ := X.leave (v := some (.int 1)) (hlocks := hlocks) (fun h => by rw [hr] at h; cases h)
  have hmeth' : T.vm.method? m = some meth := X.method'
  refine ⟨T.setFrames fs, ?_, .returned (some (.int 1)), hrun, hended, rfl, ⟨_, rfl⟩, hW, hframe⟩
  jvm_step X.here [X.here.top, hx, hb, hdg, hmeth', hr, ret, narrow_b1]
  (try refine ⟨rfl, ?_⟩); (try refine ⟨rfl, ?_⟩)
  first | (intro acts; rw [hret _ acts rfl rfl rfl]) | rw [hret _ _ rfl rfl rfl]
  exact Steps.refl _
/-- what holds at the law's entry: the machine, the code, the tables' words (any of lw_tbl by 'hts w (by decide +kernel)'), the script of L ints xs at the cell b, what the Statement gives of the start (any of its parts by flat_of_before) -/
def lw_At (p : Program) (s : State) (m : MethodId) (meth : Method) (c : Code) (b L : Nat) (xs : Nat → Int32) : Prop :=
  p.tables.exec = Jvm.exec ∧ c.code = code ∧ meth.sig.returnType = ret ∧ c.maxLocals = 11 ∧ s.vm.findClass R_law = some m.cls ∧ (∀ w ∈ lw_tbl, w.before #[Value.ref b] s = true) ∧ va_X b L xs s s.heap ∧ b < s.heap.size ∧ meth.locks = false ∧ (Jvm.Cond.and given_1 narrow_1).before #[Value.ref b] s = true
theorem wd_nil {Γ : zG} {lo : zId → Nat} {H : Heap} (h : Γ.2.2.1 ≤ H.size) : Wd Γ lo zS0 [] H :=
  ⟨h, fun _ _ h _ => Bool.noConfusion (show false = true from h), fun _ _ h _ _ => Bool.noConfusion (show false = true from h), [], fun k q h => by simp at h, ⟨fun i j p q h => by simp at h, fun k q h => by simp at h⟩, fun c h => Bool.noConfusion (show false = true from h)⟩
/-- the first object's cells become the law's own, and the world is as new -/
theorem wd_turn {Γ : zG} {lo : zId → Nat} {S : zSt} {M : zMs} {H : Heap} (hT : Tie S M) (h : Wd Γ lo S [] H) : ∃ ws : va_W, Wd Γ (fun _ => 0) zS0 ws H ∧ HO Γ (lo (10, 0, 0)) M ws := by
  obtain ⟨h1, h2, h3, ws, hP, hD, hn⟩ := h
  refine ⟨ws, ⟨h1, fun _ _ h _ => Bool.noConfusion (show false = true from h), fun _ _ h _ _ => Bool.noConfusion (show false = true from h), [], ?_, ?_, fun c h => Bool.noConfusion (show false = true from h)⟩, lo, S, rfl, hT, h2, h3, hn⟩
  · rw [List.append_nil]; exact hP
  · rw [List.append_nil]; exact hD
set_option maxHeartbeats 4000000 in
set_option maxRecDepth 100000 in
theorem whole_start {p : Program} {e : Env} {s : State} {m : MethodId} {below : List Frame} {meth : Method} {c : Code} (l : Launch) (hflags : l.flags = flags0) {b L : Nat} {xs : Nat → Int32} (hL : L ≤ 260) (C0 : lw_At p s m meth c b L xs) : W p l e room_1 s m #[Value.ref b] below meth c s.heap [] 0 0 (lw_Z below #[Value.ref b] s) (entryFrame m ([Value.ref b] : List Value).toArray 11) := by
  obtain ⟨hx, hb, hr, hml, hown, hts, hX, hbl, hlocks, hgv⟩ := id C0
  have hb : c.code = cL_law := hb
  have hown : s.vm.findClass RL = some m.cls := hown
  obtain ⟨Γ, hΓ, hKK⟩ := z_KK hts hgv
  have hKX := z_KX hts
  have hKY := z_KY hts
  have hKN := z_KN hgv
  have htw : ∀ w ∈ wsL_law, w.before #[Value.ref b] s = true := fun w hw => hts w (wsL_law_in w hw)
  have hbA : ¬ zA Γ b := by
    show ¬ Γ.2.2.1 ≤ b
    rw [hΓ]
    omega
  have hB0 : Γ.2.2.1 ≤ s.heap.size := by rw [hΓ]; exact Nat.le_refl _
  have C1 : lwF p s m c Γ b L xs := ⟨hx, hb, hml, hown, htw, hX, hbl, hbA, hB0, hKK, hKX, hKY, hKN⟩
  have hl0 : l.stackTraces = false := by
    unfold Launch.stackTraces
    rw [hflags]
    decide +kernel
  obtain ⟨S9, e9, z9⟩ := first9
  have hTie := first_tie z9
  have hS : va_S (zA Γ) s.heap s.heap [] := va_S.rf
  have hW : Wd Γ (fun _ => 0) zS0 [] s.heap := wd_nil hB0
  have hl := lv_entry ([.ref b]) (n := 11) (Nat.le_of_ble_eq_true rfl)
  rw [lg_entry_eq]
  generalize (lg_sl ([.ref b]) ++ List.replicate (11 - (lg_sl ([.ref b])).length) Slot.unset).toArray = ls at hl ⊢
  have hl : lv_has ls 11 [(0, .ref b)] := hl
  refine n_new hx hb hts in_uX9 tyX9 tyX9_ok hown (hts (.classLink RL 8 RX9) (by decide +kernel)) (hts (.instantiable RX9 9) (by decide +kernel)) (hts (.initialized RX9) (by decide +kernel)) hKK.1 hW hS hB0 (ci := 10) rfl (fs := [.null, .null, .null, .null, .null, .null, .null, .null, .int 0]) df_X9 (Nat.le_of_ble_eq_true rfl) (Nat.le_of_ble_eq_true rfl) dL_law_0 (fun q1 H hW hS => ?_)
  refine lv_dup hx hb dL_law_3 rfl ?_
  refine n_callI (As := []) (rest := [.ref q1]) ⟨hx, hb, hml, hown, htw⟩ (tX9_init l Γ (fun _ => 0) zS0 [] q1 e9) (cwI 0 htw gL_law_X9_init rfl rfl rfl (hts (.initialized RX9) (by decide +kernel)) (hts (.methodLink RL 219 yX9_init) (by decide +kernel)) (hts (.instanceMethod yX9_init) (by decide +kernel)) rfl (by decide +kernel) ⟨(Nat.le_of_ble_eq_true rfl), (Nat.le_of_ble_eq_true rfl)⟩) hKK hKY hW hS rfl hl.1 rfl (Nat.le_of_ble_eq_true rfl) dL_law_4 ⟨(Nat.le_of_ble_eq_true rfl), (Nat.le_of_ble_eq_true rfl)⟩ (fun lo1 H locs hW hS h1 hmo hE => ?_)
  obtain ⟨hq1, v4⟩ := hE
  obtain ⟨ws, hW, hO⟩ := wd_turn hTie hW
  rw [hq1] at hO
  rw [show ((fun _ => none : (zId → Nat) → Option Value) lo1).toList ++ [Value.ref q1] = [Value.ref q1] from rfl]
  generalize q1 = a1 at hO ⊢
  refine lv_astore_n (lv' := [(1, .ref a1), (0, .ref b)]) hx hb dL_law_7 rfl hl (by decide) rfl (fun ls hl => ?_)
  refine n_new hx hb hts in_uX9 tyX9 tyX9_ok hown (hts (.classLink RL 8 RX9) (by decide +kernel)) (hts (.instantiable RX9 9) (by decide +kernel)) (hts (.initialized RX9) (by decide +kernel)) hKK.1 hW hS hB0 (ci := 10) rfl (fs := [.null, .null, .null, .null, .null, .null, .null, .null, .int 0]) df_X9 (Nat.le_of_ble_eq_true rfl) (Nat.le_of_ble_eq_true rfl) dL_law_8 (fun q2 H hW hS => ?_)
  refine lv_dup hx hb dL_law_11 rfl ?_
  refine n_callI (As := []) (rest := [.ref q2]) ⟨hx, hb, hml, hown, htw⟩ (tX9_init l Γ (fun _ => 0) zS0 ws q2 e9) (cwI 0 htw gL_law_X9_init rfl rfl rfl (hts (.initialized RX9) (by decide +kernel)) (hts (.methodLink RL 219 yX9_init) (by decide +kernel)) (hts (.instanceMethod yX9_init) (by decide +kernel)) rfl (by decide +kernel) ⟨(Nat.le_of_ble_eq_true rfl), (Nat.le_of_ble_eq_true rfl)⟩) hKK hKY hW hS rfl hl.1 rfl (Nat.le_of_ble_eq_true rfl) dL_law_12 ⟨(Nat.le_of_ble_eq_true rfl), (Nat.le_of_ble_eq_true rfl)⟩ (fun lo2 H locs hW hS h1 hmo hE => ?_)
  obtain ⟨hq2, v5⟩ := hE
  have hW : W2 Γ q2 a1 (fiA (fiA zM0 16 48) 17 24) (fiA (fiA zM0 16 48) 17 24) [] H := ⟨ws, ⟨lo2, S9, hq2, hTie, hW⟩, hO⟩
  rw [show ((fun _ => none : (zId → Nat) → Option Value) lo2).toList ++ [Value.ref q2] = [Value.ref q2] from rfl]
  generalize q2 = a2 at hW ⊢
  refine lv_astore_n (lv' := [(2, .ref a2), (1, .ref a1), (0, .ref b)]) hx hb dL_law_15 rfl hl (by decide) rfl (fun ls hl => ?_)
  obtain ⟨Z, ⟨lo, S, ha, hT, hW⟩, hO⟩ := w2_swap hW
  refine lv_bipush (v := 14) hx hb dL_law_16 (by decide) ?_
  refine n_newi (N' := 14) hx hb (hts (.arrayClass .int) (by decide +kernel)) hKK.1 hW hS hB0 (by decide) (by decide) (by decide) (Nat.le_of_ble_eq_true rfl) (Nat.le_of_ble_eq_true rfl) dL_law_18 (fun q3 H hW hS => ?_)
  have hW : W2 Γ a1 a2 (fiA (fiA zM0 16 48) 17 24) (fiA (fiA zM0 16 48) 17 24) [nC Γ q3 (fun _ => 0)] H := ⟨Z, ⟨lo, S, ha, hT, hW⟩, hO⟩
  refine lv_astore_n (lv' := [(3, .ref q3), (2, .ref a2), (1, .ref a1), (0, .ref b)]) hx hb dL_law_20 rfl hl (by decide) rfl (fun ls hl => ?_)
  refine lv_bipush (v := 20) hx hb dL_law_21 (by decide) ?_
  refine lv_aload_n hx hb dL_law_23 rfl (lv_at hl 3 rfl) ?_
  refine lv_iconst (v := 0) hx hb dL_law_24 (by decide) ?_
  refine g_drw (As := [.ref b, .int (0 : Int32)]) (rest := [.int (20 : Int32)]) ⟨hx, hb, hml, hown, htw⟩ (cL_drawn_ok l Γ (W2 Γ a1 a2 (fiA (fiA zM0 16 48) 17 24) (fiA (fiA zM0 16 48) 17 24) [nC Γ q3 (fun _ => 0)]) b L xs (0 : Int32) (by decide)) (va_cwS 2 htw gL_law_L_drawn rfl rfl rfl (by decide +kernel) ⟨(Nat.le_of_ble_eq_true rfl), (Nat.le_of_ble_eq_true rfl)⟩) hX hbl hbA hW hS rfl hl.1 rfl (Nat.le_of_ble_eq_true rfl) dL_law_25 ⟨(Nat.le_of_ble_eq_true rfl), (Nat.le_of_ble_eq_true rfl)⟩ (fun H locs hW hS => ?_)
  obtain ⟨n, hn, en⟩ := drw_n L xs (0 : Int32)
  rw [en]
  have hn21 : n % 21 < 21 := Nat.mod_lt _ (by decide)
  refine lv_bipush (v := 21) hx hb dL_law_28 (by decide) ?_
  refine lv_irem hx hb dL_law_30 (by decide) ?_
  have e30 : (nI n) - (nI n) / (21 : Int32) * (21 : Int32) = nI (n % 21) := rm_21 hn
  rw [e30]
  refine lv_iadd hx hb dL_law_31 ?_
  have e31 : (20 : Int32) + nI (n % 21) = nI (20 + n % 21) := by rw [show (20 : Int32) = nI 20 by decide, nI_add]
  rw [e31]
  refine lv_istore (lv' := [(4, .int (nI (20 + n % 21))), (3, .ref q3), (2, .ref a2), (1, .ref a1), (0, .ref b)]) hx hb dL_law_32 hl (by decide) rfl (fun ls hl => ?_)
  refine lv_iconst (v := 1) hx hb dL_law_34 (by decide) ?_
  refine lv_istore (lv' := [(5, .int (1 : Int32)), (4, .int (nI (20 + n % 21))), (3, .ref q3), (2, .ref a2), (1, .ref a1), (0, .ref b)]) hx hb dL_law_35 hl (by decide) rfl (fun ls hl => ?_)
  refine lv_iconst (v := 0) hx hb dL_law_37 (by decide) ?_
  refine lv_istore (lv' := [(6, .int (0 : Int32)), (5, .int (1 : Int32)), (4, .int (nI (20 + n % 21))), (3, .ref q3), (2, .ref a2), (1, .ref a1), (0, .ref b)]) hx hb dL_law_38 hl (by decide) rfl (fun ls hl => ?_)
  rw [show (0 : Int32) = nI 0 from nI_0.symm] at hl
  refine lw_lp C1 hl0 (show 20 + n % 21 ≤ 40 by omega) (fun H locs ls M I cells slots hc hs hI hA hW hS hl => ?_) (20 + n % 21) 0 H locs ls (fiA (fiA zM0 16 48) 17 24) (fun _ => 0) _ _ (Nat.zero_add _) (Nat.le_of_ble_eq_true rfl) (Nat.le_of_ble_eq_true rfl) inv_0 ia_0 hW hS hl
  refine lw_end C1 hl0 (by omega) (by omega) hI hA hW hS hl (fun H locs ls hS => ?_)
  refine va_forget (fun q hq => by have := hS.2.2 q hq; rw [← hΓ]; exact this) ?_
  refine W.widen (k := 600086) (n := 7301442) (by omega) (by omega) ?_
  exact lw_ret hx hb hr hlocks dL_law_480
set_option maxHeartbeats 4000000 in
theorem lw_walk (l : Launch) (hflags : l.flags = flags0) (b : Addr) (xs : List Int32) : MetFree l x (headSpec (Jvm.Cond.code x code maxLocals ret :: tables_1) room_1) (lw_P b xs) (fun _ _ _ _ _ => True) lw_Q := by
  refine MetFree.of_bodyS (code := code) (maxLocals := maxLocals) (ret := ret) (by decide) ?_ ?_
  · intro args s m h hn
    obtain ⟨meth, c, h1, h2, h3, h4, h5, h6, -, -⟩ := Cond.code_spec hn (atoms_spec (ws := Jvm.Cond.code x code maxLocals ret :: tables_1) h _ List.mem_cons_self)
    exact ⟨meth, c, h1, h2, h3, h4, h5, h6⟩
  · intro p e s m args below meth c s₁ B hml0 hP _
    obtain ⟨rfl, hx, hbd, hgv⟩ := hP
    obtain ⟨scr, harrAt, hlist, hof, hsmall⟩ := hx
    obtain ⟨hcb, hkn, -, -⟩ := State.arrayAt?_spec harrAt
    have hown : s.vm.findClass R_law = some m.cls := findClass_of_methodNamed B.named
    have hts0 : ∀ c ∈ (Jvm.Cond.code x code maxLocals ret :: tables_1), c.before #[Value.ref b] s = true := atoms_spec (ws := Jvm.Cond.code x code maxLocals ret :: tables_1) B.pre
    have hts : ∀ w ∈ lw_tbl, w.before #[Value.ref b] s = true := k2_hts_sels lw_privs (fun w hw => hts0 w (List.mem_cons_of_mem _ hw)) lw_privs_ok
    have hml : c.maxLocals = 11 := B.maxLocals_eq (hts0 _ List.mem_cons_self)
    have X₀ : Stand p l e room_1 s m #[Value.ref b] below meth c s₁ [] 0 0 := Stand.of_body B
    have hh0 : s₁.heap = s.heap := by rw [B.state]; rfl
    have hsz : scr.slots.size = xs.length := by rw [← Array.length_toList, hlist, List.length_map]
    have hval : ∀ j : Nat, j < xs.length → scr.slots[j]? = some (.int (xs.getD j 0)) := fun j hj => by
      rw [← Array.getElem?_toList, hlist]
      simp [hj]
    have hbl : b < s.heap.size := (Array.getElem?_eq_some_iff.mp hcb).1
    have hX : va_X b xs.length (fun j => xs.getD j 0) s s.heap := ⟨scr, hcb, hof, hkn, hsz, hval⟩
    have K : W p l e room_1 s m #[Value.ref b] below meth c s₁.heap [] 0 0 (lw_Z below #[Value.ref b] s) (entryFrame m ([Value.ref b] : List Value).toArray 11) := by
      rw [hh0]
      exact whole_start l hflags hbd ⟨B.exec, B.bytes, B.returns, hml, hown, hts, hX, hbl, B.notSynchronized, hgv⟩
    obtain ⟨t, a1, o, b1, b2, b3⟩ := K s₁ rfl X₀
    exact ⟨t, o, a1, b1, b2, b3⟩
theorem lw_pre_spec {args : Array Value} {s : State} (h : (Jvm.Cond.and given_1 narrow_1).before args s = true) (hr : rest_1_c.before args s = true) : ∃ (b : Addr) (xs : List Int32), lw_P b xs args s := by
  have hs := flat_of_before _ h
  have hq := flat_of_before _ hr
  have hc : (Cond.count 1).before args s = true := hs _ (by decide +kernel)
  have harr : (Cond.arrayOf (.arg 0) .int).before args s = true := hs _ (by decide +kernel)
  have hle : (Cond.le (.length (.arg 0)) (.int 260)).before args s = true := hs _ (by decide +kernel)
  have hlen : (Cond.isInt (.length (.arg 0))).before args s = true := hq _ (by decide +kernel)
  have hall : (Cond.all (.arg 0) (.isInt (.elem (.arg 0) (.index 0)))).before args s = true := hq _ (by decide +kernel)
  obtain ⟨b, xs, hb, hx⟩ := State.ints_of_pre rfl harr hlen hall
  have hsm : xs.length < 2 ^ 31 := hx.choose_spec.2.2.2
  have hev : (Term.length (.arg 0)).eval args s none [] s = some (.int xs.length.toInt32) := hx.length_eval hb
  have hv := Cond.le_ints hev (show (Term.int 260).eval args s none [] s = some (.int 260) from rfl)
  have hd : xs.length.toInt32 ≤ 260 := by
    simpa [Cond.before, Cond.holds, hv] using hle
  have hN : xs.length ≤ 260 := (Int32.ofNat_le_ofNat hsm (by decide)).mp (show Int32.ofNat xs.length ≤ Int32.ofNat 260 from hd)
  exact ⟨b, xs, Cond.one_arg hc (show args[0]? = some (.ref b) from hb), hx, hN, h⟩
theorem lw_comes (l : Launch) (hflags : l.flags = flags0) : Comes l x (Jvm.Cond.code x code maxLocals ret :: tables_1) room_1 (fun tb e args s => Calls_1 tb e args s ∧ rest_1 tb e args s ∧ Pre_1 tb e args s)
    (fun _ _ args s o t => lw_Q args s o t) := by
  intro p e ha hc hk s m args below hf hfit hheap happ hpre
  obtain ⟨b, xs, hP⟩ := lw_pre_spec hpre.2.2 hpre.2.1
  obtain ⟨k, o, h1, h2, h3, hQ⟩ := lw_walk l hflags b xs p e ha hc hk s m args below hf ((Spec.applies_iff_loose hf).mp happ).1 hP trivial
  exact ⟨k, o, h1, h2, h3, hQ⟩
theorem lw_frame {s t : State} {o : Outcome} {args : Array Value} (h : Framed s o t [] 600086 7301442) :
    Framed s o t (fieldLocs frame_1_writes args s ++ arrayLocs frame_1_arrays args s ++ staticLocs frame_1_statics s) 600086 7301442 := h
theorem lw_limb (L : Cond) (hL : ∀ (args : Array Value) (s t : State), L.after args s (.returned (some (.int 1))) t = true) :
    ArmFor flags0 classFile x code maxLocals ret World_1 tables_1 room_1 Calls_1 rest_1 Pre_1
      (fun tb e a s o t => postC L tb e a s o t ∧ Framed s o t (fieldLocs frame_1_writes a s ++ arrayLocs frame_1_arrays a s ++ staticLocs frame_1_statics s) 600086 7301442) := by
  intro l hflags _ _ p e ha hc hk s m args below hf hfit hheap happ hpre
  obtain ⟨k, o, h1, h2, h3, rfl, hF⟩ := lw_comes l hflags p e ha hc hk s m args below hf hfit hheap happ hpre
  exact ⟨k, _, h1, h2, h3, hL args s _, lw_frame hF⟩
theorem i_vc : Claimed_1_1 ∧ Claimed_1_2 := ⟨lw_limb limb_1_1 (fun args s t => by simp [limb_1_1, Cond.after, Cond.holds, Cond.value]), lw_limb limb_1_2 (fun args s t => Cond.after_iff.mpr (by
  first | (rw [show limb_1_2 = Cond.eq .result (.int 1) from rfl, Cond.eq_ints (x := 1) (y := 1) rfl rfl]; simp; done) | (simp [limb_1_2, Cond.value, Term.eval]; done)))⟩
